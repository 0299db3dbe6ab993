/-! the reference reads a text, and knows all -/
abbrev nV (L : List (ST 5)) : Nat := (VS L).length
abbrev nS (L : List (ST 5)) : Nat := (s_P L).1.length
abbrev nK (L : List (ST 5)) : Nat := (s_P L).2.1.length
abbrev nL (L : List (ST 5)) : Nat := (s_P L).2.2.length
abbrev nD (L : List (ST 5)) : Nat := (n_P L).2.2.2.2.2.length
def RST (σ : St) (L : List (ST 5)) (pl : Int → Int) : Prop := RK σ (GG L) pl (nV L) (nS L) (nK L) (nL L) (nD L) ∧ BALL σ (GG L) pl (nV L) (-1) ∧ STN σ (GG L) (nV L) ∧ KNW σ (GG L) pl (nV L) (nK L) ∧ σ 136 54 = -1
/-- a program that was read -/
def PRD (pl : Int → Int) (L : List (ST 5)) : Prop := VALl (VALS pl 5) L ∧ PRO (GG L) pl (nV L) (nS L) (nK L) (nL L) ∧ VXP (GG L) (nV L) (nS L) (nK L) ∧ nD L ≤ 2000
/-- fields that reading leaves -/
def RFX (i : Int) : Prop := ¬ (i = 8 ∨ i = 9 ∨ i = 10 ∨ i = 11 ∨ (13 ≤ i ∧ i ≤ 18) ∨ i = 49 ∨ i = 51 ∨ i = 54)
section RRD
variable {sc : Nat × (Nat → Int32)} {D : Nat} {bb : Bool} {Q : QP} {S r : St} {p b ft dp : Int} {pl : Int → Int} {L : List (ST 5)} {cnt z : Int}
theorem RK_read (hv : VALl (VALS pl 5) L) (ht : TR r pl) : RK (RP (F_L 5 L (F_ini S)) r p b ft dp) (GG L) pl (nV L) (nS L) (nK L) (nL L) (nD L) := by
  have xS : nS L = (s_P L).1.length := rfl
  have xK : nK L = (s_P L).2.1.length := rfl
  have xL : nL L = (s_P L).2.2.length := rfl
  have xV : nV L = (VS L).length := rfl
  have xD : nD L = (n_P L).2.2.2.2.2.length := rfl
  obtain ⟨⟨hT, hC, -, hIV⟩, -⟩ := ref_lists (S := S) L hv
  obtain ⟨a1, a2, a3, a4, a5, a6, a7, a8, a9⟩ := ini_ok (S := S)
  obtain ⟨t1, t2, t3, t4, t5, t6, t7, t8⟩ := hT
  obtain ⟨c1, c2, c3, c4, c5, c6, c7, c8⟩ := hC
  rw [a1] at t1 t5 c1
  rw [a3] at t2 t6 c3
  rw [a4] at t3 t7 c5
  rw [a2] at t4 c7
  rw [a5] at t8 c8
  obtain ⟨⟨s1, s2, s3⟩, s4, s5, s6, s7, s8⟩ := GG_seg L
  have hlen := VS_len L
  have hl := LN_L 5 L hv (-1) 0 0 0 8 0 id8
  have en : n_LL 5 L 0 0 0 8 0 (-1) id8 = n_P L := rfl
  have es : s_L 5 L (-1) 0 0 0 = s_P L := rfl
  rw [en, es] at hl
  have hS : ∀ a i, 142 ≤ a ∧ a ≤ 172 → RP (F_L 5 L (F_ini S)) r p b ft dp a i = F_L 5 L (F_ini S) a i := fun a i ha => RP_S ha.1 ha.2
  refine ⟨⟨ht.1, by rw [RP_14, c1]; omega, by rw [RP_15, c7]; omega, by rw [RP_16, c3]; omega, by rw [RP_17, c5]; omega, by rw [RP_18, c8]; omega⟩, fun k hk => (ht.2 k hk).1, fun i i0 i1 => ⟨?_, ?_⟩, fun i i0 i1 => ⟨?_, ?_⟩, fun i i0 i1 => ⟨?_, ?_⟩, fun i i0 i1 => ?_, fun i i0 i1 => ?_⟩
  · have := TAB_IS _ 0 t1 s1 i i0 (by rw [Int.zero_add]; exact i1)
    unfold SRokR at *
    rw [hS 142 _ (by decide), hS 143 _ (by decide), hS 144 _ (by decide), hS 145 _ (by decide), hS 146 _ (by decide), hS 164 _ (by decide), hS 165 _ (by decide), hS 166 _ (by decide), hS 165 _ (by decide), hS 166 _ (by decide)]
    exact this
  · have := TAB_IS _ 0 t5 s5 i i0 (by rw [hl.1, Int.zero_add]; exact i1)
    unfold MRokR at *
    rw [hS 167 _ (by decide), hS 167 _ (by decide)]
    exact this
  · have := TAB_IS _ 0 t2 s2 i i0 (by rw [Int.zero_add]; exact i1)
    unfold KRokR at *
    rw [hS 155 _ (by decide), hS 156 _ (by decide)]
    exact this
  · have := TAB_IS _ 0 t6 s6 i i0 (by rw [hl.2.1, Int.zero_add]; exact i1)
    unfold NCok at *
    rw [hS 157 _ (by decide), hS 158 _ (by decide), hS 159 _ (by decide)]
    exact this
  · have := TAB_IS _ 0 t3 s3 i i0 (by rw [Int.zero_add]; exact i1)
    unfold LRokR at *
    rw [hS 160 _ (by decide), hS 161 _ (by decide)]
    exact this
  · have := TAB_IS _ 0 t7 s7 i i0 (by rw [hl.2.2, Int.zero_add]; exact i1)
    unfold NPok at *
    rw [hS 162 _ (by decide), hS 163 _ (by decide)]
    exact this
  · have g : VRokR (F_L 5 L (F_ini S)) i (gV (GG L) i) := by
      by_cases h8 : i < 8
      · rw [v_beg_at 8 0 (GG_V L).1 i i0 (by omega)]
        obtain ⟨b1, b2, b3, b4, b5, b6, b7, b8⟩ := a9 i i0 h8
        have f : ∀ a, 147 ≤ a ∧ a ≤ 154 → F_L 5 L (F_ini S) a i = F_ini S a i := fun a ha => hIV.1 a i (by unfold bel; omega)
        unfold VRokR
        rw [f 147 (by decide), f 148 (by decide), f 149 (by decide), f 150 (by decide), f 151 (by decide), f 152 (by decide), f 153 (by decide), f 154 (by decide)]
        exact ⟨b1, b2, b3, b4, b5, b6, b7, b8⟩
      · exact TAB_IS _ 8 t4 s4 i (by omega) (by omega)
    unfold VRokR at *
    rw [hS 147 _ (by decide), hS 148 _ (by decide), hS 149 _ (by decide), hS 150 _ (by decide), hS 151 _ (by decide), hS 152 _ (by decide), hS 153 _ (by decide), hS 154 _ (by decide)]
    exact g
  · have := TAB_IS _ 0 t8 s8 i i0 (by rw [Int.zero_add]; exact i1)
    unfold CDok at *
    rw [hS 168 _ (by decide), hS 169 _ (by decide), hS 170 _ (by decide)]
    exact this
theorem PRD_read (hv : VALl (VALS pl 5) L) (ht : TR r pl) (hg : GR 0 192 (F_ini S) (F_L 5 L (F_ini S))) : PRD pl L ∧ F_L 5 L (F_ini S) 136 14 = nS L := by
  have xS : nS L = (s_P L).1.length := rfl
  have xK : nK L = (s_P L).2.1.length := rfl
  have xL : nL L = (s_P L).2.2.length := rfl
  have xV : nV L = (VS L).length := rfl
  have xD : nD L = (n_P L).2.2.2.2.2.length := rfl
  obtain ⟨⟨-, hC, -, -⟩, -⟩ := ref_lists (S := S) L hv
  obtain ⟨a1, a2, a3, a4, a5, -⟩ := ini_ok (S := S)
  obtain ⟨c1, c2, c3, c4, c5, c6, c7, c8⟩ := hC
  unfold GR at hg
  rw [a1, a2, a3, a4, a5] at hg
  rw [a1] at c1
  rw [a3] at c3
  rw [a4] at c5
  rw [a5] at c8
  have hp := PRO_of hv (by omega) (by omega) (by omega) (fun k hk => (ht.2 k hk).2)
  exact ⟨⟨hv, hp, VX_of hv, by omega⟩, by rw [c1]; omega⟩
/-- reads -/
theorem m204 (hr : RH r)
    (kF : ∀ S' r' p' b' q, p_P (r 139) (r 136 6) = .inl q → FR r r' → Q (.inl (some (vi 0))) bb (RP S' r' p' b' q 0))
    (kS : ∀ σ' pl L cnt z, p_P (r 139) (r 136 6) = .inr ((pl, L, cnt), z) → PRD pl L → cnt = nS L → RST σ' L pl → σ' 136 10 = -1 → (∀ a i, ¬ (141 ≤ a ∧ a ≤ 179) → ¬ (a = 136 ∧ ¬ RFX i) → σ' a i = r a i) → Q (.inl (some (vi 1))) bb σ') :
    qx sc (24 + D + 11) 204 0 [vr 136, vn, vn] [] (0, 0) bb (RP S r p b ft dp) Q := by
  refine m_204 hr kF (fun r' pl L cnt z p' b' l1 l2 e1 f1 t1 e2 g1 => ?_)
  have hv := p_P_i hr.2.2 e1
  obtain ⟨hP, e3⟩ := PRD_read (S := S) hv t1 g1
  have hk := RK_read (S := S) (r := r') (p := p') (b := b') (ft := -1) (dp := 0) hv t1
  simp only [k204_142, k204_143]
  refine m171 (D := 24 + D + 4) hP.2.1 hP.2.2.1 hk (fun σ' q1 q2 q3 q4 q5 q6 => ?_)
  simp only [q_kn_v, q_kn_n, k204_146, k204_147, true_implies, false_implies, not_true_eq_false, not_false_eq_true, true_and, and_true, implies_true, or_true, true_or, or_false, false_or, Int.reduceEq, Int.one_ne_zero, Nat.reduceEqDiff]
  refine kS σ' pl L cnt z e1 hP (by rw [← e2, e3]) ⟨q1, q2, q3, q4, q5⟩ ?_ (fun a i n1 n2 => ?_)
  · rw [q6 136 10 (by decide) (by decide), RP_ft]
  · by_cases ha : a = 136
    · subst ha
      have hx : RFX i := Classical.byContradiction (fun h => n2 ⟨rfl, h⟩)
      unfold RFX at hx
      rw [q6 136 i (by decide) (by omega)]
      have e : RP (F_L 5 L (F_ini S)) r' p' b' (-1) 0 136 i = r' 136 i := by
        unfold RP
        rw [if_pos rfl, if_neg (by omega), if_neg (by omega), if_neg (by omega), if_neg (by omega), if_neg (by omega)]
      rw [e]
      exact f1 136 i (by omega) (by decide)
    · rw [q6 a i (by omega) (by omega)]
      have e : RP (F_L 5 L (F_ini S)) r' p' b' (-1) 0 a i = r' a i := by
        unfold RP
        rw [if_neg ha, if_neg (by omega)]
      rw [e]
      exact f1 a i (by omega) (by omega)
end RRD
