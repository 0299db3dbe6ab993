/-! bounds and boundsAll in the reference -/
def thR : Nat → Option Int := fun _ => some 20000
def mvA (E : LE) (thr X : Nat → Option Int) : Nat → Bool
  | 0 => false
  | k + 1 => mvA E thr X k || decide (l_sw E thr (k + 1) X k ≠ X k)
def RWR (σ : St) (b : Int) (Y : Nat → Option Int) (V : Nat) : St := q_upf σ 173 (fun j => if 700 * b ≤ j ∧ j < 700 * b + V then enR b (Y (j - 700 * b).toNat) else σ 173 j)
section RFS
variable {sc : Nat × (Nat → Int32)} {D : Nat} {bb : Bool} {Q : QP} {V S K Ln Cn v : Nat} {σ σ' : St} {G : GT} {pl q : Int → Int} {b n x y wo i M : Int} {X Y : Nat → Option Int} {E : LE} {thr : Nat → Option Int} {a : Nat}
theorem RK_of (h : RK σ G pl V S K Ln Cn) (he : ∀ a i, (a = 136 ∧ 13 ≤ i ∧ i ≤ 18) ∨ (141 ≤ a ∧ a ≤ 170) → σ' a i = σ a i) : RK σ' G pl V S K Ln Cn := by
  obtain ⟨h1, h2, h3, h4, h5, h6, h7⟩ := h
  have g : ∀ a i, 141 ≤ a ∧ a ≤ 170 → σ' a i = σ a i := fun a i ha => he a i (Or.inr ha)
  refine ⟨?_, fun k hk => by rw [g 141 k (by decide)]; exact h2 k hk, fun i i0 i1 => ⟨?_, ?_⟩, fun i i0 i1 => ⟨?_, ?_⟩, fun i i0 i1 => ⟨?_, ?_⟩, fun i i0 i1 => ?_, fun i i0 i1 => ?_⟩
  · rw [he 136 13 (by omega), he 136 14 (by omega), he 136 15 (by omega), he 136 16 (by omega), he 136 17 (by omega), he 136 18 (by omega)]
    exact h1
  · have := (h3 i i0 i1).1
    unfold SRokR at *
    rw [g 142 _ (by decide), g 143 _ (by decide), g 144 _ (by decide), g 145 _ (by decide), g 146 _ (by decide), g 164 _ (by decide), g 165 _ (by decide), g 166 _ (by decide), g 165 _ (by decide), g 166 _ (by decide)]
    exact this
  · have := (h3 i i0 i1).2
    unfold MRokR at *
    rw [g 167 _ (by decide), g 167 _ (by decide)]
    exact this
  · have := (h4 i i0 i1).1
    unfold KRokR at *
    rw [g 155 _ (by decide), g 156 _ (by decide)]
    exact this
  · have := (h4 i i0 i1).2
    unfold NCok at *
    rw [g 157 _ (by decide), g 158 _ (by decide), g 159 _ (by decide)]
    exact this
  · have := (h5 i i0 i1).1
    unfold LRokR at *
    rw [g 160 _ (by decide), g 161 _ (by decide)]
    exact this
  · have := (h5 i i0 i1).2
    unfold NPok at *
    rw [g 162 _ (by decide), g 163 _ (by decide)]
    exact this
  · have := h6 i i0 i1
    unfold VRokR at *
    rw [g 147 _ (by decide), g 148 _ (by decide), g 149 _ (by decide), g 150 _ (by decide), g 151 _ (by decide), g 152 _ (by decide), g 153 _ (by decide), g 154 _ (by decide)]
    exact this
  · have := h7 i i0 i1
    unfold CDok at *
    rw [g 168 _ (by decide), g 169 _ (by decide), g 170 _ (by decide)]
    exact this
theorem RWR_at (hv : v < V) : RWR σ b Y V 173 (700 * b + v) = enR b (Y v) := by
  unfold RWR
  rw [q_upf_eq, if_pos (by omega), show (700 * b + (v : Int) - 700 * b).toNat = v by omega]
theorem RWR_ne (h : ¬ a = 173) : RWR σ b Y V a i = σ a i := q_upf_ne _ _ _ h
theorem RWR_BNR : BNR (RWR σ b Y V) b V Y := fun w hw => RWR_at hw
theorem RWR_up {k : Nat} {o : Option Int} (hk : k < V) : q_up (RWR σ b Y V) 173 (700 * b + k) (enR b o) = RWR σ b (fun w => if w = k then o else Y w) V := by
  funext a' j
  rw [q_up_app]
  unfold RWR
  by_cases e : a' = 173
  · subst e
    rw [q_upf_eq, q_upf_eq]
    by_cases e2 : j = 700 * b + k
    · rw [if_pos ⟨rfl, e2⟩, if_pos (by omega)]; dsimp only; rw [if_pos (by omega)]
    · rw [if_neg (fun h => e2 h.2)]
      by_cases e3 : 700 * b ≤ j ∧ j < 700 * b + V
      · rw [if_pos e3, if_pos e3]; dsimp only; rw [if_neg (by omega)]
      · rw [if_neg e3, if_neg e3]
  · rw [if_neg (fun h => e h.1), q_upf_ne _ _ _ e, q_upf_ne _ _ _ e]
theorem RWR_ext (h : ∀ v, v < V → X v = Y v) : RWR σ b X V = RWR σ b Y V := by
  funext a' j
  unfold RWR q_upf
  by_cases e : a' = 173
  · rw [if_pos e, if_pos e]
    dsimp only
    by_cases e3 : 700 * b ≤ j ∧ j < 700 * b + V
    · rw [if_pos e3, if_pos e3, h _ (by omega)]
    · rw [if_neg e3, if_neg e3]
  · rw [if_neg e, if_neg e]
theorem mvA_t : ∀ k : Nat, mvA E thr X k = true ↔ ∃ v, v < k ∧ l_sw E thr k X v ≠ X v := by
  intro k
  induction k with
  | zero => simp [mvA]
  | succ k ih =>
    rw [mvA, Bool.or_eq_true, decide_eq_true_eq, ih]
    constructor
    · rintro (⟨v, h1, h3⟩ | h2)
      · refine ⟨v, by omega, ?_⟩
        rw [l_sw_lt (show v < k + 1 by omega), ← l_sw_lt (show v < k by omega)]
        exact h3
      · exact ⟨k, by omega, h2⟩
    · rintro ⟨v, h1, h3⟩
      by_cases e : v = k
      · subst e
        exact Or.inr h3
      · refine Or.inl ⟨v, by omega, ?_⟩
        rw [l_sw_lt (show v < k by omega), ← l_sw_lt (show v < k + 1 by omega)]
        exact h3
theorem enR_inj {o1 o2 : Option Int} (h1 : RBG o1) (h2 : RBG o2) : enR b o1 = enR b o2 ↔ o1 = o2 := by
  constructor
  · intro h
    cases o1 with
    | none => cases o2 with
      | none => rfl
      | some y => have := h2 y rfl; unfold enR at h; dsimp only at h; split at h <;> omega
    | some x => cases o2 with
      | none => have := h1 x rfl; unfold enR at h; dsimp only at h; split at h <;> omega
      | some y =>
        unfold enR at h
        dsimp only at h
        have : x = y := by split at h <;> omega
        rw [this]
  · rintro rfl; rfl
/-- what comes is no more than 99 above -/
theorem l_F_ub (hW : ∀ i : Int, 0 ≤ i → i < V → WV G pl V i) (hq : QPL q) (hb : 0 ≤ b ∧ b ≤ 3) {k : Nat} (hk : k < V) (hY : ∀ w : Nat, w < V → ∀ a, Y w = some a → a ≤ 100000) {z : Int} (hz : l_F (E_G G q b wo) Y k = some z) : z ≤ 100099 := by
  have hw := hW k (by omega) (by omega)
  unfold l_F E_G at hz
  by_cases hm : v_meet (gV G k)
  · rw [if_pos hm] at hz
    obtain ⟨m1, m2, -⟩ := WV_m hw hm
    dsimp only at hz
    have y1 := hY (gV G k).1.2.2.2.1.toNat (by omega)
    have y2 := hY (gV G k).1.2.2.2.2.toNat (by omega)
    generalize Y (gV G k).1.2.2.2.1.toNat = o1 at *
    generalize Y (gV G k).1.2.2.2.2.toNat = o2 at *
    cases o1 with
    | none => cases hz
    | some p1 =>
      cases o2 with
      | none => cases hz
      | some p2 =>
        have := y1 p1 rfl
        have := y2 p2 rfl
        cases hz
        omega
  · rw [if_neg hm] at hz
    obtain ⟨f1, f2, f3⟩ := WV_n hw hm
    dsimp only at hz
    have bf : ∀ y, l_fr Y (e_fr b (gV G k)) = some y → y ≤ 100099 := by
      intro y hy
      unfold e_fr at hy
      split at hy
      · cases hy
      · unfold l_fr at hy
        dsimp only at hy
        have hx := hY (gV G k).1.2.2.2.1.toNat (by omega)
        generalize Y (gV G k).1.2.2.2.1.toNat = o at *
        cases o with
        | none => cases hy
        | some y' =>
          have := hx y' rfl
          cases hy
          split <;> omega
    have bt : ∀ y, l_tm Y (if (k : Int) = wo then .inl none else e_tm q b (e_tt b (gV G k))) = some y → y ≤ 100099 := by
      intro y hy
      split at hy
      · cases hy
      · obtain ⟨tk0, tk⟩ := TOK_tt (b := b) f3
        generalize e_tt b (gV G k) = τ at *
        unfold e_tm at hy
        split at hy
        · unfold l_tm at hy
          dsimp only at hy
          cases hy
          split
          · omega
          · have := hq b (by omega) (by omega)
            omega
        · split at hy
          · unfold l_tm at hy
            dsimp only at hy
            have := hq τ.2.1 (by omega) (by omega)
            split at hy
            · cases hy; omega
            · split at hy
              · cases hy; omega
              · cases hy
          · split at hy
            · unfold l_tm at hy
              dsimp only at hy
              have hx := hY τ.2.1.toNat (by omega)
              generalize Y τ.2.1.toNat = o at *
              cases o with
              | none => cases hy
              | some y' =>
                have := hx y' rfl
                cases hy
                omega
            · cases hy
    generalize l_fr Y (e_fr b (gV G k)) = o1 at *
    generalize l_tm Y (if (k : Int) = wo then .inl none else e_tm q b (e_tt b (gV G k))) = o2 at *
    cases o1 with
    | none =>
      cases o2 with
      | none => cases hz
      | some p2 => cases hz; exact bt _ rfl
    | some p1 =>
      cases o2 with
      | none => cases hz; exact bf _ rfl
      | some p2 =>
        have := bf p1 rfl
        cases hz
        omega
/-- what has been gone over is small -/
theorem sw_small (hW : ∀ i : Int, 0 ≤ i → i < V → WV G pl V i) (hl : l_W (E_G G q b wo) V) (h240 : V ≤ 240) {k w : Nat} (hk : k ≤ V) (hw : w < k) : ∀ a, l_sw (E_G G q b wo) thR k X w = some a → -30000 ≤ a ∧ a ≤ 20000 := by
  intro a ha
  have h1 := l_sw_low hl k hk w hw a ha
  have h2 := l_dn_100 (q := q) (b := b) (wo := wo) hW (w + 1) (by omega)
  rw [l_sw_lt hw, l_sw_at] at ha
  refine ⟨by omega, ?_⟩
  unfold l_T thR at ha
  generalize l_F (E_G G q b wo) (l_sw (E_G G q b wo) (fun _ => some 20000) w X) w = o at ha
  cases o with
  | none => cases ha
  | some z =>
    dsimp only at ha
    split at ha
    · cases ha
    · cases ha; omega
theorem sw_RBG (hW : ∀ i : Int, 0 ≤ i → i < V → WV G pl V i) (hl : l_W (E_G G q b wo) V) (h240 : V ≤ 240) (hX : ∀ w : Nat, w < V → RBG (X w)) {k : Nat} (hk : k ≤ V) : ∀ w : Nat, w < V → RBG (l_sw (E_G G q b wo) thR k X w) := by
  intro w hw
  by_cases h : w < k
  · intro a ha
    have := sw_small hW hl h240 hk h a ha
    omega
  · rw [l_sw_ge (by omega)]
    exact hX w hw
/-- one sweep -/
theorem m134_i (hk : RK σ G pl V S K Ln Cn) (hp : PRO G pl V S K Ln) (hx : VXP G V S K) (hs : SIL σ G K wo) (hq : QPL (q_of pl)) (hb : 0 ≤ b ∧ b ≤ 3) (hX : ∀ w : Nat, w < V → RBG (X w))
    (kk : ∀ l4, qx sc (D + 4) 134 153 [vr 136, vi b, vi (if mvA (E_G G (q_of pl) b wo) thR X V = true then 1 else 0), vi V, l4] [] (0, 0) bb (RWR σ b (l_sw (E_G G (q_of pl) b wo) thR V X) V) Q) :
    ∀ (d k : Nat) (l4 : V2), k + d = V → qx sc (D + 4) 134 44 [vr 136, vi b, vi (if mvA (E_G G (q_of pl) b wo) thR X k = true then 1 else 0), vi k, l4] [] (0, 0) bb (RWR σ b (l_sw (E_G G (q_of pl) b wo) thR k X) V) Q := by
  have hW := hp.1
  have hl := E_G_W (b := b) (wo := wo) hW hq hb
  have h240 := hp.2.1.2.1
  have hRK : ∀ Y, RK (RWR σ b Y V) G pl V S K Ln Cn := fun Y => RK_of hk (fun a i ha => RWR_ne (by omega))
  have hSI : ∀ Y, SIL (RWR σ b Y V) G K wo := fun Y => by
    unfold SIL
    rw [RWR_ne (by decide)]
    exact hs
  intro d
  induction d with
  | zero =>
    intro k l4 hkV
    have e : k = V := by omega
    subst e
    have e15 : ∀ Y, RWR σ b Y k 136 15 = k := fun Y => by rw [RWR_ne (by decide)]; exact hk.1.2.2.1
    rw [k134_44]
    simp only [k134_45, k134_46, k134_49, e15]
    exact ⟨fun hh => by omega, fun _ => kk _⟩
  | succ d ih =>
    intro k l4 hkV
    have hkV' : k < V := by omega
    have k0 : (0 : Int) ≤ (k : Int) := by omega
    have kV : (k : Int) < (V : Int) := by omega
    have hYb := sw_RBG hW hl h240 hX (show k ≤ V by omega)
    have hYb' := sw_RBG hW hl h240 hX (show k + 1 ≤ V by omega)
    have hYs : ∀ w : Nat, w < k → RSM (l_sw (E_G G (q_of pl) b wo) thR k X w) := fun w hw a ha => by
      have := sw_small hW hl h240 (show k ≤ V by omega) hw a ha
      omega
    have hlow : ∀ z, l_sw (E_G G (q_of pl) b wo) thR (k + 1) X k = some z → -30000 ≤ z := fun z hz => (sw_small hW hl h240 (show k + 1 ≤ V by omega) (by omega) z hz).1
    have hYk : l_sw (E_G G (q_of pl) b wo) thR k X k = X k := l_sw_ge (Nat.le_refl _)
    have hnx := ih (k + 1)
    have eS : l_sw (E_G G (q_of pl) b wo) thR (k + 1) X = l_sw1 (E_G G (q_of pl) b wo) thR k (l_sw (E_G G (q_of pl) b wo) thR k X) := rfl
    have eM : mvA (E_G G (q_of pl) b wo) thR X (k + 1) = (mvA (E_G G (q_of pl) b wo) thR X k || decide (l_sw (E_G G (q_of pl) b wo) thR (k + 1) X k ≠ X k)) := rfl
    rw [eM] at hnx
    have eat : l_sw (E_G G (q_of pl) b wo) thR (k + 1) X k = l_T thR k (l_F (E_G G (q_of pl) b wo) (l_sw (E_G G (q_of pl) b wo) thR k X) k) := l_sw_at
    have hinj := enR_inj (b := b) (hYb' k hkV') (hX k hkV')
    rw [eat] at hnx hinj hlow
    rw [eS] at hnx
    unfold l_sw1 at hnx
    have hub : ∀ z, l_F (E_G G (q_of pl) b wo) (l_sw (E_G G (q_of pl) b wo) thR k X) k = some z → z ≤ 100099 := fun z hz => l_F_ub hW hq hb hkV' (fun w hw a ha => (hYb w hw a ha).2) hz
    generalize l_sw (E_G G (q_of pl) b wo) thR k X = Y at *
    have e15 : RWR σ b Y V 136 15 = V := by rw [RWR_ne (by decide)]; exact hk.1.2.2.1
    rw [k134_44]
    simp only [k134_45, k134_46, k134_49, k134_52, k134_53, k134_54, k134_55, e15, kV, true_implies, false_implies, not_true_eq_false, not_false_eq_true, true_and, and_true, implies_true, or_true, true_or, or_false, false_or, Int.reduceEq, Int.one_ne_zero, Nat.reduceEqDiff]
    refine m141 (hRK Y) hp hx (hSI Y) hq RWR_BNR hYs hYb hb hkV' ?_
    generalize hO : l_F (E_G G (q_of pl) b wo) Y k = O at *
    -- its, cut
    have cut : ∀ z l2, z = enR b (l_T thR k O) → qx sc (D + 4) 134 112 [vr 136, vi b, l2, vi k, vi z] [] (0, 0) bb (RWR σ b Y V) Q → qx sc (D + 4) 134 60 [vr 136, vi b, l2, vi k, vi (enR b O)] [] (0, 0) bb (RWR σ b Y V) Q := by
      intro z l2 hz h
      subst hz
      cases O with
      | none =>
        have e1 : enR b (l_T thR k none) = enR b none := rfl
        rw [e1] at h
        have eb : enR b none = if b = 3 then -268435456 else 268435456 := rfl
        by_cases b3 : b = 3
        · rw [eb, if_pos b3] at h ⊢
          simp only [k134_60, k134_62, k134_65, k134_68, k134_70, k134_73, k134_76, k134_77, k134_78, k134_81, k134_84, k134_86, k134_88, k134_91, k134_94, k134_96, k134_99, k134_102, k134_103, k134_104, true_implies, false_implies, not_true_eq_false, not_false_eq_true, true_and, and_true, implies_true, or_true, true_or, or_false, false_or, Int.reduceEq, Int.one_ne_zero, Nat.reduceEqDiff, Int.reduceLT, Int.lt_irrefl]
          exact h
        · rw [eb, if_neg b3] at h ⊢
          simp only [k134_60, k134_62, k134_65, k134_68, k134_70, k134_73, k134_76, k134_77, k134_78, k134_81, k134_84, k134_86, k134_88, k134_91, k134_94, k134_96, k134_99, k134_102, k134_103, k134_104, true_implies, false_implies, not_true_eq_false, not_false_eq_true, true_and, and_true, implies_true, or_true, true_or, or_false, false_or, Int.reduceEq, Int.one_ne_zero, Nat.reduceEqDiff, Int.reduceLT, Int.lt_irrefl]
          exact h
      | some z =>
        have h1 := hub z rfl
        by_cases hz : 20000 < z
        · have e1 : l_T thR k (some z) = none := by
            unfold l_T thR
            dsimp only
            rw [if_pos hz]
          rw [e1] at h
          have eb : enR b none = if b = 3 then -268435456 else 268435456 := rfl
          have ez : enR b (some z) = if b = 3 then -z else z := rfl
          rw [eb] at h
          rw [ez]
          by_cases b3 : b = 3
          · rw [if_pos b3] at h ⊢
            have g1 : ¬ (20000 : Int) < -z := by omega
            have g2 : -z < (-20000 : Int) := by omega
            have g3 : (-268435456 : Int) < -z := by omega
            simp only [k134_60, k134_62, k134_65, k134_68, k134_70, k134_73, k134_76, k134_77, k134_78, k134_81, k134_84, k134_86, k134_88, k134_91, k134_94, k134_96, k134_99, k134_102, k134_103, k134_104, k134_107, k134_110, true_implies, false_implies, not_true_eq_false, not_false_eq_true, true_and, and_true, implies_true, or_true, true_or, or_false, false_or, Int.reduceEq, Int.one_ne_zero, Nat.reduceEqDiff, g1, g2, g3, b3]
            rw [b3] at h
            exact h
          · rw [if_neg b3] at h ⊢
            have g1 : (20000 : Int) < z := by omega
            have g2 : z < (268435456 : Int) := by omega
            have g3 : ¬ (268435456 : Int) < -20000 := by omega
            simp only [k134_60, k134_62, k134_65, k134_68, k134_70, k134_73, k134_76, k134_77, k134_78, k134_81, k134_84, k134_86, k134_88, k134_91, k134_94, k134_96, k134_99, k134_102, k134_103, k134_104, k134_107, k134_110, true_implies, false_implies, not_true_eq_false, not_false_eq_true, true_and, and_true, implies_true, or_true, true_or, or_false, false_or, Int.reduceEq, Int.one_ne_zero, Nat.reduceEqDiff, g1, g2, g3, b3]
            exact h
        · have e1 : l_T thR k (some z) = some z := by
            unfold l_T thR
            dsimp only
            rw [if_neg hz]
          rw [e1] at h hlow
          have h2 := hlow z rfl
          have ez : enR b (some z) = if b = 3 then -z else z := rfl
          rw [ez] at h ⊢
          by_cases b3 : b = 3
          · rw [if_pos b3] at h ⊢
            simp only [k134_60, k134_62, k134_65, k134_68, k134_70, k134_73, k134_76, k134_77, k134_78, k134_81, k134_84, k134_86, k134_88, k134_91, k134_94, k134_96, k134_99, k134_102, k134_103, k134_104, true_implies, false_implies, not_true_eq_false, not_false_eq_true, true_and, and_true, implies_true, or_true, true_or, or_false, false_or, Int.reduceEq, Int.one_ne_zero, Nat.reduceEqDiff]
            refine ⟨fun g1 => ⟨fun g2 => ⟨fun _ => ⟨fun g4 => by omega, fun g4 => h⟩, fun g3 => absurd b3 g3⟩, fun g2 => ⟨fun g4 => by omega, fun g4 => h⟩⟩, fun g1 => ⟨fun g4 => by omega, fun g4 => h⟩⟩
          · rw [if_neg b3] at h ⊢
            have g1 : ¬ (20000 : Int) < z := hz
            simp only [k134_60, k134_62, k134_65, k134_68, k134_70, k134_73, k134_76, k134_77, k134_78, k134_81, k134_84, k134_86, k134_88, k134_91, k134_94, k134_96, k134_99, k134_102, k134_103, k134_104, true_implies, false_implies, not_true_eq_false, not_false_eq_true, true_and, and_true, implies_true, or_true, true_or, or_false, false_or, Int.reduceEq, Int.one_ne_zero, Nat.reduceEqDiff, g1, b3]
            refine ⟨fun g4 => ⟨fun g5 => h, fun g5 => h⟩, fun g4 => h⟩
    simp only [q_kn_v, k134_58]
    refine cut _ _ rfl ?_
    have fin : ∀ (fl : Bool), fl = (mvA (E_G G (q_of pl) b wo) thR X k || decide (l_T thR k O ≠ X k)) → qx sc (D + 4) 134 132 [vr 136, vi b, vi (if mvA (E_G G (q_of pl) b wo) thR X k = true then 1 else 0), vi k, vi (enR b (l_T thR k O))] [vi (if fl = true then 1 else 0)] (0, 0) bb (RWR σ b Y V) Q := by
      intro fl hfl
      subst hfl
      simp only [k134_132, k134_133, k134_134, k134_137, k134_140, k134_141, k134_142, k134_143, k134_144, k134_146, k134_147, k134_150, qt_1, ql_1, qt_2, ql_2, qt_3, ql_3, qt_6, ql_6, qt_7, ql_7, qt_8, ql_8, qt_10, ql_10, qt_11, ql_11, qt_12, ql_12, qt_13, ql_13, qt_14, ql_14, qt_15, ql_15, qt_16, ql_16, qt_17, ql_17, qt_18, ql_18, qt_19, ql_19, qt_20, ql_20, qt_21, ql_21, qt_22, ql_22, qt_23, ql_23, qt_24, ql_24, qt_25, ql_25, qt_26, ql_26, qt_28, ql_28, qt_29, ql_29, qt_30, ql_30, qt_31, ql_31, qt_32, ql_32, qt_33, ql_33, qt_34, ql_34, qt_35, ql_35, qt_36, ql_36, qt_37, ql_37, qt_38, ql_38, qt_40, ql_40, qt_41, ql_41, qt_42, ql_42, qt_43, ql_43, qt_44, ql_44, qt_45, ql_45, qt_46, ql_46, qt_47, ql_47, qt_48, ql_48, qt_49, ql_49, qt_50, ql_50, qt_51, ql_51, qt_52, ql_52, qt_53, ql_53, qt_54, ql_54, qt_56, ql_56, qt_57, ql_57, qt_58, ql_58, qt_59, ql_59, qt_60, ql_60, qt_61, ql_61, qt_62, ql_62, qt_63, ql_63, qt_64, ql_64, qt_65, ql_65, qt_67, ql_67, qt_68, ql_68, qt_69, ql_69, qt_70, ql_70, qt_71, ql_71, qt_73, ql_73, qt_74, ql_74, qt_75, ql_75, qt_76, ql_76, qt_78, ql_78, qt_79, ql_79, qt_80, ql_80, qt_81, ql_81, qt_82, ql_82, qt_83, ql_83, qt_84, ql_84, qt_85, ql_85, qt_86, ql_86, qt_87, ql_87, qt_89, ql_89, qt_90, ql_90, qt_91, ql_91, qt_92, ql_92, qt_93, ql_93, qt_94, ql_94, qt_95, ql_95, qt_96, ql_96, qt_97, ql_97, qt_98, ql_98, qt_99, ql_99, qt_100, ql_100, qt_101, ql_101, qt_102, ql_102, qt_103, ql_103, qt_105, ql_105, qt_106, ql_106, qt_107, ql_107, qt_108, ql_108, qt_109, ql_109, qt_110, ql_110, qt_111, ql_111, qt_113, ql_113, qt_114, ql_114, qt_115, ql_115, qt_116, ql_116, qt_117, ql_117, qt_118, ql_118, qt_119, ql_119, qt_120, ql_120, qt_121, ql_121, qt_122, ql_122, qt_123, ql_123, qt_124, ql_124, qt_125, ql_125, qt_126, ql_126, qt_127, ql_127, qt_129, ql_129, qt_130, ql_130, qt_131, ql_131, qt_132, ql_132, qt_133, ql_133, qt_134, ql_134, qt_135, ql_135, qt_137, ql_137, qt_138, ql_138, qt_139, ql_139, qt_140, ql_140, qt_141, ql_141, qt_142, ql_142, qt_143, ql_143, qt_144, ql_144, qt_145, ql_145, qt_146, ql_146, qt_147, ql_147, qt_148, ql_148, qt_149, ql_149, qt_150, ql_150, qt_151, ql_151, qt_152, ql_152, qt_153, ql_153, qt_154, ql_154, qt_155, ql_155, qt_156, ql_156, qt_157, ql_157, qt_158, ql_158, qt_159, ql_159, qt_160, ql_160, qt_161, ql_161, qt_162, ql_162, qt_163, ql_163, qt_164, ql_164, qt_165, ql_165, qt_166, ql_166, qt_167, ql_167, qt_168, ql_168, qt_169, ql_169, qt_170, ql_170, qt_171, ql_171, qt_172, ql_172, qt_173, ql_173, qt_174, ql_174, qt_175, ql_175, qt_176, ql_176, qt_177, ql_177, qt_178, ql_178, qt_179, ql_179, qt_180, ql_180, qt_181, ql_181, qt_182, ql_182, qt_183, ql_183, qt_184, ql_184, qt_185, ql_185, qt_186, ql_186, qt_187, ql_187, qt_188, ql_188, true_implies, false_implies, not_true_eq_false, not_false_eq_true, true_and, and_true, implies_true, or_true, true_or, or_false, false_or, Int.reduceEq, Int.one_ne_zero, Nat.reduceEqDiff, RWR_up hkV']
      refine ⟨by unfold q_R; omega, by unfold q_R; omega, by omega, by omega, hnx _ (by omega)⟩
    cases hfl : mvA (E_G G (q_of pl) b wo) thR X k with
    | true =>
      simp only [k134_112, k134_113, k134_127, k134_128, if_true, true_implies, false_implies, not_true_eq_false, not_false_eq_true, true_and, and_true, implies_true, or_true, true_or, or_false, false_or, Int.reduceEq, Int.one_ne_zero, Nat.reduceEqDiff]
      have := fin true (by rw [hfl]; rfl)
      rw [hfl, if_pos rfl] at this
      exact this
    | false =>
      simp only [k134_112, k134_113, k134_116, k134_118, k134_119, k134_120, k134_121, Bool.false_eq_true, if_false, true_implies, false_implies, not_true_eq_false, not_false_eq_true, true_and, and_true, implies_true, or_true, true_or, or_false, false_or, Int.reduceEq, Int.one_ne_zero, Nat.reduceEqDiff]
      refine m133 hb k0 (by omega) ?_
      rw [RWR_at hkV', hYk]
      simp only [q_kn_v, k134_124, k134_127, k134_128, k134_131]
      refine ⟨fun ne => ?_, fun ne => ?_⟩
      · have := fin false (by rw [hfl, hinj.mp ne]; simp)
        rw [hfl, if_neg (by decide)] at this
        exact this
      · have hne : l_T thR k O ≠ X k := fun q => ne (hinj.mpr q)
        have := fin true (by rw [hfl]; simp only [Bool.false_or]; exact (decide_eq_true hne).symm)
        rw [hfl, if_neg (by decide), if_pos rfl] at this
        exact this
end RFS
