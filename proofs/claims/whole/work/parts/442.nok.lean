/-! the reference's rows, as lists say -/
def SRokR (S : St) (i : Int) (x : SR) : Prop := S 142 i = x.1.1 ∧ S 143 i = x.1.2.1 ∧ S 144 i = x.2.1.1 ∧ S 145 i = x.2.1.2.1 ∧ S 146 i = x.2.1.2.2.1 ∧ (3 ≤ x.1.1 → S 164 i = x.2.2.1 ∧ S 165 (2 * i) = F_sk x.2.2.2.1.1 ∧ S 166 (2 * i) = x.2.2.2.1.2 ∧ S 165 (2 * i + 1) = F_sk x.2.2.2.2.1 ∧ S 166 (2 * i + 1) = x.2.2.2.2.2)
def KRokR (S : St) (i : Int) (x : KR) : Prop := S 155 i = x.1 ∧ S 156 i = x.2.1
def LRokR (S : St) (i : Int) (x : LR) : Prop := S 160 i = x.1 ∧ S 161 i = x.2
def VRokR (S : St) (i : Int) (x : VR) : Prop := S 147 i = x.1.1 ∧ S 148 i = x.1.2.1 ∧ S 149 i = x.1.2.2.1 ∧ S 150 i = x.1.2.2.2.1 ∧ S 151 i = x.1.2.2.2.2 ∧ S 152 i = x.2.1.1 ∧ S 153 i = x.2.1.2.1 ∧ S 154 i = x.2.1.2.2
def MRokR (S : St) (i : Int) (x : MR) : Prop := ¬ x.2.2.1.1 = -1 → S 167 (2 * i) = x.2.2.2.1 ∧ S 167 (2 * i + 1) = x.2.2.2.2
def NCok (S : St) (i : Int) (x : NC) : Prop := S 157 i = x.1 ∧ S 158 i = x.2.1 ∧ S 159 i = x.2.2
def NPok (S : St) (i : Int) (x : NP) : Prop := S 162 i = x.1 ∧ S 163 i = x.2
def CDok (S : St) (i : Int) (x : CD) : Prop := S 168 i = x.1 ∧ S 169 i = x.2.1 ∧ S 170 i = x.2.2
/-- rows of S' from the counts of S on, as the lists say -/
def NTB (S S' : St) (p : SO) (o : NO) : Prop := TAB (SRokR S') (S 136 14) p.1 ∧ TAB (KRokR S') (S 136 16) p.2.1 ∧ TAB (LRokR S') (S 136 17) p.2.2 ∧ TAB (VRokR S') (S 136 15) o.2.1 ∧ TAB (MRokR S') (S 136 14) o.2.2.1 ∧ TAB (NCok S') (S 136 16) o.2.2.2.1 ∧ TAB (NPok S') (S 136 17) o.2.2.2.2.1 ∧ TAB (CDok S') (S 136 18) o.2.2.2.2.2
/-- how the counts have grown -/
def NCT (S S' : St) (p : SO) (o : NO) : Prop := S' 136 14 = S 136 14 + p.1.length ∧ o.2.2.1.length = p.1.length ∧ S' 136 16 = S 136 16 + p.2.1.length ∧ o.2.2.2.1.length = p.2.1.length ∧ S' 136 17 = S 136 17 + p.2.2.length ∧ o.2.2.2.2.1.length = p.2.2.length ∧ S' 136 15 = S 136 15 + o.2.1.length ∧ S' 136 18 = S 136 18 + o.2.2.2.2.2.length
def NOK (S S' : St) (p : SO) (o : NO) : Prop := NTB S S' p o ∧ NCT S S' p o ∧ nz (S' 171) = o.1 ∧ IV S S'
/-- a frame but for some places -/
def WX (X : Nat → Int → Prop) (S S' : St) : Prop := (∀ a i, bel S a i → ¬ X a i → S' a i = S a i) ∧ CU S S'
abbrev so0 : SO := ([], [], [])
section NKA
variable {S S0 S1 S2 S' : St} {X : Nat → Int → Prop} {p p' : SO} {o o' : NO} {x how s fr too a b i v : Int}
theorem WX_IV (h : IV S S') : WX X S S' := ⟨fun a i hb _ => h.1 a i hb, h.2⟩
theorem WX_refl : WX X S S := WX_IV IV_refl
theorem WX_trans (h1 : WX X S S1) (h2 : WX X S1 S2) : WX X S S2 := by
  refine ⟨fun a i hb hx => ?_, ?_⟩
  · rw [h2.1 a i (bel_up h1.2 hb) hx]
    exact h1.1 a i hb hx
  · have a1 := h1.2
    have a2 := h2.2
    unfold CU at *
    omega
theorem WX_up {c : Nat} (hc : ¬ c = 136) (hx : X c i ∨ ¬ bel S c i) : WX X S (q_up S c i x) := by
  refine ⟨fun a j hb hn => ?_, ?_⟩
  · rw [q_up_app, if_neg]
    rintro ⟨rfl, rfl⟩
    rcases hx with h | h
    · exact hn h
    · exact h hb
  · unfold CU
    simp only [q_up_ne _ _ _ _ (show ¬ 136 = c from fun q => hc q.symm)]
    omega
/-- lists stay told, if what is left out isn't theirs -/
theorem NTB_W (h : NTB S0 S p o) (hc : NCT S0 S p o) (hw : WX X S S') (h14 : ∀ a i, (142 ≤ a ∧ a ≤ 146) ∨ a = 164 → S0 136 14 ≤ i → ¬ X a i) (h165 : ∀ a i, 165 ≤ a ∧ a ≤ 167 → 2 * S0 136 14 ≤ i → ¬ X a i) (h15 : ∀ a i, 147 ≤ a ∧ a ≤ 154 → S0 136 15 ≤ i → i < S 136 15 → ¬ X a i) (h16 : ∀ a i, 155 ≤ a ∧ a ≤ 159 → S0 136 16 ≤ i → ¬ X a i) (h17 : ∀ a i, 160 ≤ a ∧ a ≤ 163 → S0 136 17 ≤ i → ¬ X a i) (h18 : ∀ a i, 168 ≤ a ∧ a ≤ 170 → S0 136 18 ≤ i → i < S 136 18 → ¬ X a i) : NTB S0 S' p o := by
  obtain ⟨t1, t2, t3, t4, t5, t6, t7, t8⟩ := h
  obtain ⟨c1, c2, c3, c4, c5, c6, c7, c8⟩ := hc
  refine ⟨TAB_mono _ _ (fun j x j1 j2 hx => ?_) t1, TAB_mono _ _ (fun j x j1 j2 hx => ?_) t2, TAB_mono _ _ (fun j x j1 j2 hx => ?_) t3, TAB_mono _ _ (fun j x j1 j2 hx => ?_) t4, TAB_mono _ _ (fun j x j1 j2 hx => ?_) t5, TAB_mono _ _ (fun j x j1 j2 hx => ?_) t6, TAB_mono _ _ (fun j x j1 j2 hx => ?_) t7, TAB_mono _ _ (fun j x j1 j2 hx => ?_) t8⟩
  · have g : ∀ a, (142 ≤ a ∧ a ≤ 146) ∨ a = 164 → S' a j = S a j := fun a ha => hw.1 a j (by unfold bel; omega) (h14 a j ha (by omega))
    have g2 : ∀ a i, 165 ≤ a ∧ a ≤ 167 → i = 2 * j ∨ i = 2 * j + 1 → S' a i = S a i := fun a i ha hi => hw.1 a i (by unfold bel; omega) (h165 a i ha (by omega))
    unfold SRokR at *
    rw [g 142 (by decide), g 143 (by decide), g 144 (by decide), g 145 (by decide), g 146 (by decide), g 164 (by decide), g2 165 _ (by decide) (Or.inl rfl), g2 165 _ (by decide) (Or.inr rfl), g2 166 _ (by decide) (Or.inl rfl), g2 166 _ (by decide) (Or.inr rfl)]
    exact hx
  · have g : ∀ a, 155 ≤ a ∧ a ≤ 159 → S' a j = S a j := fun a ha => hw.1 a j (by unfold bel; omega) (h16 a j ha (by omega))
    unfold KRokR at *
    rw [g 155 (by decide), g 156 (by decide)]
    exact hx
  · have g : ∀ a, 160 ≤ a ∧ a ≤ 163 → S' a j = S a j := fun a ha => hw.1 a j (by unfold bel; omega) (h17 a j ha (by omega))
    unfold LRokR at *
    rw [g 160 (by decide), g 161 (by decide)]
    exact hx
  · have g : ∀ a, 147 ≤ a ∧ a ≤ 154 → S' a j = S a j := fun a ha => hw.1 a j (by unfold bel; omega) (h15 a j ha (by omega) (by omega))
    unfold VRokR at *
    rw [g 147 (by decide), g 148 (by decide), g 149 (by decide), g 150 (by decide), g 151 (by decide), g 152 (by decide), g 153 (by decide), g 154 (by decide)]
    exact hx
  · have g2 : ∀ i, i = 2 * j ∨ i = 2 * j + 1 → S' 167 i = S 167 i := fun i hi => hw.1 167 i (by unfold bel; omega) (h165 167 i (by decide) (by omega))
    unfold MRokR at *
    rw [g2 _ (Or.inl rfl), g2 _ (Or.inr rfl)]
    exact hx
  · have g : ∀ a, 155 ≤ a ∧ a ≤ 159 → S' a j = S a j := fun a ha => hw.1 a j (by unfold bel; omega) (h16 a j ha (by omega))
    unfold NCok at *
    rw [g 157 (by decide), g 158 (by decide), g 159 (by decide)]
    exact hx
  · have g : ∀ a, 160 ≤ a ∧ a ≤ 163 → S' a j = S a j := fun a ha => hw.1 a j (by unfold bel; omega) (h17 a j ha (by omega))
    unfold NPok at *
    rw [g 162 (by decide), g 163 (by decide)]
    exact hx
  · have g : ∀ a, 168 ≤ a ∧ a ≤ 170 → S' a j = S a j := fun a ha => hw.1 a j (by unfold bel; omega) (h18 a j ha (by omega) (by omega))
    unfold CDok at *
    rw [g 168 (by decide), g 169 (by decide), g 170 (by decide)]
    exact hx
theorem NTB_IV (h : NTB S0 S p o) (hc : NCT S0 S p o) (hi : IV S S') : NTB S0 S' p o :=
  NTB_W (X := fun _ _ => False) h hc (WX_IV hi) (fun _ _ _ _ h => h) (fun _ _ _ _ h => h) (fun _ _ _ _ _ h => h) (fun _ _ _ _ h => h) (fun _ _ _ _ h => h) (fun _ _ _ _ _ h => h)
/-- one behind another -/
def o_app (o o' : NO) : NO := (o'.1, o.2.1 ++ o'.2.1, o.2.2.1 ++ o'.2.2.1, o.2.2.2.1 ++ o'.2.2.2.1, o.2.2.2.2.1 ++ o'.2.2.2.2.1, o.2.2.2.2.2 ++ o'.2.2.2.2.2)
def so_app (p p' : SO) : SO := (p.1 ++ p'.1, p.2.1 ++ p'.2.1, p.2.2 ++ p'.2.2)
theorem NTB_app (h1 : NTB S0 S' p o) (hc : NCT S0 S p o) (h2 : NTB S S' p' o') : NTB S0 S' (so_app p p') (o_app o o') := by
  obtain ⟨t1, t2, t3, t4, t5, t6, t7, t8⟩ := h1
  obtain ⟨c1, c2, c3, c4, c5, c6, c7, c8⟩ := hc
  obtain ⟨u1, u2, u3, u4, u5, u6, u7, u8⟩ := h2
  rw [c1] at u1 u5
  rw [c3] at u2 u6
  rw [c5] at u3 u7
  rw [c7] at u4
  rw [c8] at u8
  unfold so_app o_app
  exact ⟨(TAB_app _ _ _).mpr ⟨t1, u1⟩, (TAB_app _ _ _).mpr ⟨t2, u2⟩, (TAB_app _ _ _).mpr ⟨t3, u3⟩, (TAB_app _ _ _).mpr ⟨t4, u4⟩, (TAB_app _ _ _).mpr ⟨t5, by rw [c2]; exact u5⟩, (TAB_app _ _ _).mpr ⟨t6, by rw [c4]; exact u6⟩, (TAB_app _ _ _).mpr ⟨t7, by rw [c6]; exact u7⟩, (TAB_app _ _ _).mpr ⟨t8, u8⟩⟩
theorem NCT_app (h1 : NCT S0 S p o) (h2 : NCT S S' p' o') : NCT S0 S' (so_app p p') (o_app o o') := by
  unfold NCT so_app o_app at *
  simp only [List.length_append]
  omega
theorem NOK_app (h1 : NOK S0 S p o) (h2 : NOK S S' p' o') : NOK S0 S' (so_app p p') (o_app o o') :=
  ⟨NTB_app (NTB_IV h1.1 h1.2.1 h2.2.2.2) h1.2.1 h2.1, NCT_app h1.2.1 h2.2.1, h2.2.2.1, IV_trans h1.2.2.2 h2.2.2.2⟩
/-- steps that tell nothing -/
theorem NOK_none (hi : IV S S') (h : ∀ i, 14 ≤ i ∧ i ≤ 18 → S' 136 i = S 136 i) : NOK S S' so0 (nz (S' 171), [], [], [], [], []) := by
  refine ⟨⟨trivial, trivial, trivial, trivial, trivial, trivial, trivial, trivial⟩, ?_, rfl, hi⟩
  have a := h 14 (by decide)
  have b := h 15 (by decide)
  have c := h 16 (by decide)
  have d := h 17 (by decide)
  have e := h 18 (by decide)
  exact ⟨by rw [a]; simp, rfl, by rw [c]; simp, rfl, by rw [d]; simp, rfl, by rw [b]; simp, by rw [e]; simp⟩
theorem NOK_lay : NOK S (F_lay S x a b) so0 (nz (S 171), [], [], [], [], [(x, a, b)]) := by
  refine ⟨⟨trivial, trivial, trivial, trivial, trivial, trivial, trivial, ⟨⟨?_, ?_, ?_⟩, trivial⟩⟩, ?_, ?_, IV_lay IV_refl⟩
  · simp only [F_lay, q_up_eq, q_up_ne, q_up_ne2, q_upf_ne, q_upf_eq, not_false_eq_true, Nat.reduceEqDiff]
  · simp only [F_lay, q_up_eq, q_up_ne, q_up_ne2, q_upf_ne, q_upf_eq, not_false_eq_true, Nat.reduceEqDiff]
  · simp only [F_lay, q_up_eq, q_up_ne, q_up_ne2, q_upf_ne, q_upf_eq, not_false_eq_true, Nat.reduceEqDiff]
  · exact ⟨by rw [F_lay_f (by decide)]; simp, rfl, by rw [F_lay_f (by decide)]; simp, rfl, by rw [F_lay_f (by decide)]; simp, rfl, by rw [F_lay_f (by decide)]; simp, by rw [F_lay_18]; rfl⟩
  · rfl
theorem nz_mk : nz (F_mk S x how s fr too 171) = un (nz (S 171)) x (S 136 15) := by
  funext i
  unfold un nz p_up
  by_cases h : 0 ≤ i ∧ i ≤ 7
  · rw [if_pos h, if_pos h, F_mk_171]
    by_cases e : i = x
    · rw [if_pos e, if_pos e]
    · rw [if_neg e, if_neg e]
      exact (if_pos h).symm
  · rw [if_neg h, if_neg h]
/-- of a version the reference's rows alone count here: pq is the class's -/
theorem NOK_mk {pq : Int × (Int × Int × Int) × (Int × Int × Int)} : NOK S (F_mk S x how s fr too) so0 (un (nz (S 171)) x (S 136 15), [((x, how, s, fr, too), (0, -1, 0), pq)], [], [], [], []) := by
  refine ⟨⟨trivial, trivial, trivial, ⟨⟨?_, ?_, ?_, ?_, ?_, ?_, ?_, ?_⟩, trivial⟩, trivial, trivial, trivial, trivial⟩, ?_, nz_mk, IV_mk IV_refl⟩
  · rw [F_mk_147, if_pos rfl]
  · rw [F_mk_148, if_pos rfl]
  · rw [F_mk_149, if_pos rfl]
  · rw [F_mk_150, if_pos rfl]
  · rw [F_mk_151, if_pos rfl]
  · rw [F_mk_152, if_pos rfl]
  · rw [F_mk_153, if_pos rfl]
  · rw [F_mk_154, if_pos rfl]
  · exact ⟨by rw [F_mk_f (by decide)]; simp, rfl, by rw [F_mk_f (by decide)]; simp, rfl, by rw [F_mk_f (by decide)]; simp, rfl, by rw [F_mk_15]; rfl, by rw [F_mk_f (by decide)]; simp⟩
/-- a version, and its DO_MAKE -/
theorem NOK_ml {pq : Int × (Int × Int × Int) × (Int × Int × Int)} : NOK S (F_lay (F_mk S x how s fr too) 6 (S 136 15) 0) so0 (un (nz (S 171)) x (S 136 15), [((x, how, s, fr, too), (0, -1, 0), pq)], [], [], [], [(6, S 136 15, 0)]) := by
  have h := NOK_app (NOK_mk (S := S) (x := x) (how := how) (s := s) (fr := fr) (too := too) (pq := pq)) (NOK_lay (S := F_mk S x how s fr too) (x := 6) (a := S 136 15) (b := 0))
  rw [nz_mk] at h
  exact h
theorem v_cd_app : ∀ (a b : Nat) (v : Int), v_cd v (a + b) = v_cd v a ++ v_cd (v + a) b := by
  intro a
  induction a with
  | zero => intro b v; simp [v_cd]
  | succ a ih =>
    intro b v
    rw [show a + 1 + b = (a + b) + 1 by omega, v_cd, v_cd, ih, List.cons_append, show v + 1 + (a : Int) = v + ((a + 1 : Nat) : Int) by omega]
theorem v_join_len {set : Int} {one other : Int → Int} : ∀ (k : Nat) (x : Int), (v_join set one other s k x).length = v_many set k x := by
  intro k
  induction k with
  | zero => intro x; rfl
  | succ k ih =>
    intro x
    rw [v_join, v_many]
    split
    · exact ih _
    · rw [List.length_cons, ih]
theorem v_round_len {set : Int} {one other : Int → Int} : ∀ (k : Nat) (x : Int), (v_round set one other s k x).length = v_many set k x := by
  intro k
  induction k with
  | zero => intro x; rfl
  | succ k ih =>
    intro x
    rw [v_round, v_many]
    split
    · exact ih _
    · rw [List.length_cons, ih]
theorem nz_nz {f : Int → Int} : nz (nz f) = nz f := by
  funext i
  unfold nz
  by_cases h : 0 ≤ i ∧ i ≤ 7
  · rw [if_pos h, if_pos h]
  · rw [if_neg h, if_neg h]
theorem nz_at {f : Int → Int} (h0 : 0 ≤ i) (h1 : i ≤ 7) : nz f i = f i := by
  unfold nz
  rw [if_pos ⟨h0, h1⟩]
theorem so0_app : so_app so0 p = p := rfl
theorem app_so0 : so_app p so0 = p := by
  unfold so_app
  simp
theorem NOK_join {set one' other' : Int} {one other : Int → Int} : ∀ (k : Nat) (x : Int) (S : St), 0 ≤ x → x + k ≤ 8 → 0 ≤ S 136 15 → (∀ j, x ≤ j → j < x + k → S 172 (one' + j) = one j ∧ S 172 (other' + j) = other j) → NOK S (F_join set one' other' s k x S) so0 (v_now set k x (S 136 15) (nz (S 171)), v_join set one other s k x, [], [], [], v_cd (S 136 15) (v_many set k x)) := by
  intro k
  induction k with
  | zero =>
    intro x S h0 h1 h2 h3
    rw [F_join, v_join, v_many, v_now]
    exact NOK_none IV_refl (fun _ _ => rfl)
  | succ k ih =>
    intro x S h0 h1 h2 h3
    rw [F_join, v_join, v_many, v_now]
    by_cases e : q_bit set x = 0
    · rw [if_pos e, if_pos e, if_pos e, if_pos e]
      exact ih (x + 1) S (by omega) (by omega) h2 (fun j j1 j2 => h3 j (by omega) (by omega))
    · rw [if_neg e, if_neg e, if_neg e, if_neg e]
      obtain ⟨e1, e2⟩ := h3 x (Int.le_refl _) (by omega)
      rw [e1, e2]
      have hm := NOK_ml (S := S) (x := x) (how := 5) (s := s) (fr := one x) (too := other x) (pq := (0, t0, t0))
      have e15 : F_lay (F_mk S x 5 s (one x) (other x)) 6 (S 136 15) 0 136 15 = S 136 15 + 1 := by simp only [F_lay_ne, F_lay_f, F_lay_18, F_mk_ne, F_mk_f, F_mk_15, q_up_eq, q_up_ne, q_up_ne2, q_upf_ne, q_upf_eq, not_false_eq_true, Nat.reduceEqDiff, Int.reduceEq]
      have e172 : ∀ j, F_lay (F_mk S x 5 s (one x) (other x)) 6 (S 136 15) 0 172 j = S 172 j := fun j => by
        rw [F_lay_ne (by decide) (by decide) (by decide) (by decide), F_mk_ne (by decide) (by decide) (by decide) (by decide) (by decide) (by decide) (by decide) (by decide) (by decide) (by decide)]
      have hn := ih (x + 1) (F_lay (F_mk S x 5 s (one x) (other x)) 6 (S 136 15) 0) (by omega) (by omega) (by rw [e15]; omega) (fun j j1 j2 => by rw [e172, e172]; exact h3 j (by omega) (by omega))
      rw [e15, hm.2.2.1] at hn
      have := NOK_app hm hn
      exact this
theorem NOK_round {set : Int} : ∀ (k : Nat) (x : Int) (S : St) (now : Int → Int), 0 ≤ x → x + k ≤ 8 → 0 ≤ S 136 15 → (∀ j, x ≤ j → j < x + k → S 171 j = now j) → NOK S (F_round set s k x S) so0 (v_now set k x (S 136 15) (nz (S 171)), v_round set now (fun _ => -1) s k x, [], [], [], v_cd (S 136 15) (v_many set k x)) := by
  intro k
  induction k with
  | zero =>
    intro x S now h0 h1 h2 h3
    rw [F_round, v_round, v_many, v_now]
    exact NOK_none IV_refl (fun _ _ => rfl)
  | succ k ih =>
    intro x S now h0 h1 h2 h3
    rw [F_round, v_round, v_many, v_now]
    by_cases e : q_bit set x = 0
    · rw [if_pos e, if_pos e, if_pos e, if_pos e]
      exact ih (x + 1) S now (by omega) (by omega) h2 (fun j j1 j2 => h3 j (by omega) (by omega))
    · rw [if_neg e, if_neg e, if_neg e, if_neg e]
      have e1 := h3 x (Int.le_refl _) (by omega)
      rw [e1]
      have hm := NOK_ml (S := S) (x := x) (how := 6) (s := s) (fr := now x) (too := -1) (pq := (0, t0, t0))
      have e15 : F_lay (F_mk S x 6 s (now x) (-1)) 6 (S 136 15) 0 136 15 = S 136 15 + 1 := by simp only [F_lay_ne, F_lay_f, F_lay_18, F_mk_ne, F_mk_f, F_mk_15, q_up_eq, q_up_ne, q_up_ne2, q_upf_ne, q_upf_eq, not_false_eq_true, Nat.reduceEqDiff, Int.reduceEq]
      have e171 : ∀ j, ¬ j = x → F_lay (F_mk S x 6 s (now x) (-1)) 6 (S 136 15) 0 171 j = S 171 j := fun j hj => by
        rw [F_lay_ne (by decide) (by decide) (by decide) (by decide), F_mk_171, if_neg hj]
      have hn := ih (x + 1) (F_lay (F_mk S x 6 s (now x) (-1)) 6 (S 136 15) 0) now (by omega) (by omega) (by rw [e15]; omega) (fun j j1 j2 => by rw [e171 j (by omega)]; exact h3 j (by omega) (by omega))
      rw [e15, hm.2.2.1] at hn
      have := NOK_app hm hn
      exact this
end NKA
