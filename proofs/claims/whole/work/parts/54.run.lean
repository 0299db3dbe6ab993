/-! RUNS as functions, over the class's own cells: 78 values, 79 free, 80 last of, 82 to 84 rows, 85 sizes, 86 outs, 87 results -/
abbrev RF : Type := Int → St → St × Bool
/-- on, if it goes on -/
def R_and (p : St × Bool) (f : St → St × Bool) : St × Bool := if p.2 = true then f p.1 else p
def R_step (σ : St) : St × Bool := if 300 ≤ σ 87 2 then (q_up σ 87 0 2, false) else (q_up σ 87 2 (σ 87 2 + 1), true)
def R_sd (q : Int × Int) (σ : St) : Int := if q.1 = 3 then σ 78 q.2 else if q.1 = 2 then σ 85 q.2 else q.2
def R_h (t : TT) (σ : St) : Bool := if t.1 = 0 then decide (R_sd t.2.1 σ < R_sd t.2.2 σ) else if t.1 = 1 then decide (R_sd t.2.1 σ ≤ R_sd t.2.2 σ) else decide (R_sd t.2.1 σ = R_sd t.2.2 σ)
def R_ca (σ : St) : St := q_up (q_up σ 87 4 (σ 87 4 + 1)) 87 6 (σ 87 6 + 1)
section RUN
variable (G : GT) (pl : Int → Int) (V K : Nat) (how : Int)
def R_mk (v m : Int) (σ : St) : St := q_upf σ 80 (fun j => if v ≤ j ∧ j < v + m then σ 78 (gV G j).1.1 else σ 80 j)
/-- the versions behind an answer -/
def R_ans (s : Int) (σ : St) : St := R_mk G (if R_h (gR G s).2.2 σ = true then (gM G s).2.2.1.1 else (gM G s).2.2.1.2.1) (gM G s).2.2.1.2.2 σ
/-- how many parts of a check are asked -/
noncomputable def R_cn (k x : Int) (σ : St) : Int :=
  if ¬ (gdr G pl V k).1 = -1 ∧ σ 79 (gdr G pl V k).1 = 1 then 0
  else if how = 0 ∨ shD G pl V (-1) k = 0 then (if x < 0 then 1 else if how = 0 ∨ shU G pl V (-1) k = 0 then 2 else 1)
  else if how = 0 ∨ shU G pl V (-1) k = 0 then 1 else 0
noncomputable def R_pass (s : Int) (σ : St) : St × Bool :=
  if (gR G s).2.1.1 = -1 then (σ, true)
  else if 0 ≤ σ 78 (gK G (gR G s).2.1.1).2.2 ∧ σ 78 (gK G (gR G s).2.1.1).2.2 < σ 85 (gK G (gR G s).2.1.1).2.1 then
    (q_up (q_up σ 87 4 (σ 87 4 + R_cn G pl V how (gR G s).2.1.1 (σ 78 (gK G (gR G s).2.1.1).2.2) σ)) 80 (gC G (gR G s).2.1.1).2.1 (σ 78 (gK G (gR G s).2.1.1).2.2), true)
  else (q_up (q_up (q_up σ 87 4 (σ 87 4 + R_cn G pl V how (gR G s).2.1.1 (σ 78 (gK G (gR G s).2.1.1).2.2) σ)) 87 0 1) 87 1 s, false)
def R_val (s : Int) (σ : St) : Int :=
  if (gR G s).1.2.2.1 = 2 then σ 85 (gR G s).1.2.2.2.1
  else if (gR G s).1.2.2.1 = 3 then σ 78 (gR G s).1.2.2.2.1 + (gR G s).1.2.2.2.2
  else if (gR G s).1.2.2.1 = 4 then σ (82 + (gK G (gR G s).2.1.1).2.1.toNat) (σ 78 (gK G (gR G s).2.1.1).2.2)
  else if (gR G s).1.2.2.1 = 5 then σ 2 (gR G s).1.2.2.2.1
  else (gR G s).1.2.2.2.2
def R_do (s : Int) (σ : St) : St :=
  if (gR G s).1.1 = 0 then q_up (q_up σ 78 (gR G s).1.2.1 (R_val G s σ)) 80 (gM G s).1 (R_val G s σ)
  else if (gR G s).1.1 = 1 then q_up σ (82 + (gK G (gR G s).2.1.1).2.1.toNat) (σ 78 (gR G s).1.2.1) (σ 78 (gR G s).1.2.2.2.1)
  else q_up (q_up σ 86 (σ 87 3) (σ 78 (gR G s).1.2.1)) 87 3 (σ 87 3 + 1)
/-- a statement without a block -/
noncomputable def R_b : RF := fun s σ => R_and (R_step σ) fun σ => R_and (R_pass G pl V how s σ) fun σ => (R_do G s σ, true)
noncomputable def R_if (A B : RF) : RF := fun s σ => R_and (R_step σ) fun σ => R_and (if R_h (gR G s).2.2 σ = true then A (s + 1) (R_ans G s σ) else B (gR G s).2.1.2.2.2.1 (R_ans G s σ)) fun σ => (R_mk G (gM G s).2.1.1 (gM G s).2.1.2 σ, true)
/-- of a check that a loop guards: what it looks at, as it was last; as it will be last -/
def R_low (k : Int) (σ : St) : Int := σ 80 (RT G (gC G k).1).1 + (RT G (gC G k).1).2
noncomputable def R_hi (k s : Int) (σ : St) : Int := if (gdr G pl V k).2 = 0 then R_low G k σ else R_sd (gR G s).2.2.2.2 σ - (if (gR G s).2.2.1 = 0 then 1 else 0) + (RT G (gC G k).1).2
/-- asked ahead of a loop: d checks from k on -/
noncomputable def R_ah (l s : Int) : Nat → Int → St → St × Bool
  | 0, _, σ => (σ, true)
  | d + 1, k, σ => if ¬ (gdr G pl V k).1 = l then R_ah l s d (k + 1) σ
    else R_and (if shD G pl V (-1) k = 0 then (R_ca σ, decide (0 ≤ R_low G k σ)) else (σ, true)) fun σ =>
      R_and (if shU G pl V (-1) k = 0 then (R_ca σ, decide (R_hi G pl V k s σ < σ 85 (gK G k).2.1)) else (σ, true)) fun σ => R_ah l s d (k + 1) σ
noncomputable def gdn (l : Int) : Int := l_sm (fun j => if (gdr G pl V j).1 = l then 1 else 0) K
noncomputable def R_ent (l s : Int) (σ : St) : St :=
  if how = 2 ∧ 0 < gdn G pl V K l then
    (if (R_ah G pl V l s K 0 σ).2 = true then q_up (q_up (R_ah G pl V l s K 0 σ).1 79 l 1) 87 5 ((R_ah G pl V l s K 0 σ).1 87 5 + 1) else (R_ah G pl V l s K 0 σ).1)
  else σ
def R_lp (A : RF) (l s : Int) : Nat → St → St × Bool
  | 0, σ => (σ, false)
  | n + 1, σ => R_and (R_step σ) fun σ => if R_h (gR G s).2.2 σ = true then R_and (A (s + 1) (R_ans G s σ)) fun σ => R_lp A l s n (R_mk G (gM G s).2.1.1 (gM G s).2.1.2 σ) else (q_up (R_ans G s σ) 79 l 0, true)
noncomputable def R_wh (A : RF) : RF := fun s σ => R_lp G A (gR G s).2.1.2.1 s 301 (R_ent G pl V K how (gR G s).2.1.2.1 s (R_mk G (gM G s).2.1.1 (gM G s).2.1.2 σ))
def r_seq : List RF → RF
  | [], _, σ => (σ, true)
  | g :: gs, s, σ => R_and (g s σ) fun σ => r_seq gs (gR G s).2.1.2.2.2.2 σ
noncomputable def r_S : (d : Nat) → ST d → RF
  | 0 => fun _ => R_b G pl V how
  | d + 1 => fun x => match (x : SB ⊕ ((Bool × TT) × List (ST d) × List (ST d))) with
    | .inl _ => R_b G pl V how
    | .inr y => if y.1.1 = true then R_wh G pl V K how (r_seq G (y.2.1.map (r_S d))) else R_if G (r_seq G (y.2.1.map (r_S d))) (r_seq G (y.2.2.map (r_S d)))
noncomputable def r_L (d : Nat) (L : List (ST d)) : RF := r_seq G (L.map (r_S G pl V K how d))
end RUN
section RUA
variable {G : GT} {pl : Int → Int} {V K : Nat} {how : Int}
theorem r_S_0 (x : SB) : r_S G pl V K how 0 x = R_b G pl V how := rfl
theorem r_S_b (d : Nat) (x : SB) : r_S G pl V K how (d + 1) (Sum.inl x) = R_b G pl V how := rfl
theorem r_S_wh (d : Nat) (t : TT) (A B : List (ST d)) : r_S G pl V K how (d + 1) (Sum.inr ((true, t), A, B)) = R_wh G pl V K how (r_L G pl V K how d A) := by
  unfold r_L
  rw [r_S]
  exact if_pos rfl
theorem r_S_if (d : Nat) (t : TT) (A B : List (ST d)) : r_S G pl V K how (d + 1) (Sum.inr ((false, t), A, B)) = R_if G (r_L G pl V K how d A) (r_L G pl V K how d B) := by
  unfold r_L
  rw [r_S]
  exact if_neg (show ¬ false = true by decide)
theorem r_L_n (d : Nat) (s : Int) (σ : St) : r_L G pl V K how d [] s σ = (σ, true) := rfl
theorem r_L_c (d : Nat) (x : ST d) (L : List (ST d)) (s : Int) (σ : St) : r_L G pl V K how d (x :: L) s σ = R_and (r_S G pl V K how d x s σ) fun σ => r_L G pl V K how d L (gR G s).2.1.2.2.2.2 σ := rfl
theorem R_and_t {p : St × Bool} {f : St → St × Bool} (h : p.2 = true) : R_and p f = f p.1 := if_pos h
theorem R_and_f {p : St × Bool} {f : St → St × Bool} (h : p.2 = false) : R_and p f = p := if_neg (by rw [h]; decide)
end RUA
/-! bounds hold -/
def bnd (ln : Int → Int) (b y a : Int) : Prop := if b = 3 then -a ≤ y else y ≤ ln b + a
/-- y is as the bounds of a version say -/
def SBD (G : GT) (pl : Int → Int) (V : Nat) (ln : Int → Int) (w y : Int) : Prop := ∀ b, 0 ≤ b → b ≤ 3 → (b = 3 ∨ ¬ pl b = -1) → ∀ a, l_L (E_G G (q_of pl) b (-1)) V w.toNat = some a → bnd ln b y a
/-- lengths are as told -/
def LNO (pl ln : Int → Int) : Prop := ∀ b, 0 ≤ b → b ≤ 2 → ¬ pl b = -1 → pl b ≤ ln b
/-- what a word tells of -/
def TVL (G : GT) (pl : Int → Int) (V : Nat) (ln : Int → Int) (τ : Int × Int × Int) (yt : Int) : Prop := (τ.1 = 1 ∧ yt = τ.2.1) ∨ (τ.1 = 2 ∧ yt = ln τ.2.1 ∧ 0 ≤ τ.2.1 ∧ τ.2.1 ≤ 2 ∧ ¬ pl τ.2.1 = -1) ∨ (τ.1 = 3 ∧ SBD G pl V ln τ.2.1 yt)
section SND
variable {G : GT} {pl ln : Int → Int} {V S K Ln : Nat} {w y y0 b a : Int} {τ : Int × Int × Int}
theorem bnd_le {a' : Int} (h : bnd ln b y a) (ha : a ≤ a') : bnd ln b y a' := by
  unfold bnd at h ⊢
  split <;> rename_i hb
  · rw [if_pos hb] at h; omega
  · rw [if_neg hb] at h; omega
theorem SB_m (hp : PRO G pl V S K Ln) (w0 : 0 ≤ w) (w1 : w < V) (hm : v_meet (gV G w)) (h : SBD G pl V ln (gV G w).1.2.2.2.1 y ∨ SBD G pl V ln (gV G w).1.2.2.2.2 y) : SBD G pl V ln w y := by
  intro b b0 b1 bt a ha
  have hl := E_G_W (b := b) (wo := -1) hp.1 (PRO_q hp) ⟨b0, b1⟩
  have hfx := l_L_fix hl w.toNat (by omega)
  rw [l_F_m (by rw [Int.toNat_of_nonneg w0]; exact hm), Int.toNat_of_nonneg w0] at hfx
  rw [ha] at hfx
  cases h1 : l_L (E_G G (q_of pl) b (-1)) V (gV G w).1.2.2.2.1.toNat with
  | none => rw [h1] at hfx; cases hfx
  | some x1 =>
    cases h2 : l_L (E_G G (q_of pl) b (-1)) V (gV G w).1.2.2.2.2.toNat with
    | none => rw [h1, h2] at hfx; cases hfx
    | some x2 =>
      rw [h1, h2] at hfx
      have e : a = max x1 x2 := Option.some.inj hfx
      rcases h with h | h
      · exact bnd_le (h b b0 b1 bt x1 h1) (by omega)
      · exact bnd_le (h b b0 b1 bt x2 h2) (by omega)
theorem q_of_b (hp : PRO G pl V S K Ln) (hL : LNO pl ln) {r : Int} (r0 : 0 ≤ r) (r1 : r ≤ 2) (rt : ¬ pl r = -1) : q_of pl r ≤ ln r := by
  rw [q_of_t rt]
  exact hL r r0 r1 rt
theorem TV_u (hp : PRO G pl V S K Ln) (hL : LNO pl ln) (b0 : 0 ≤ b) (b2 : b ≤ 2) (bt : ¬ pl b = -1) (h : TVL G pl V ln τ y0) (hy : y ≤ y0 + τ.2.2) (ha : l_tm (l_L (E_G G (q_of pl) b (-1)) V) (e_tm (q_of pl) b τ) = some a) : y ≤ ln b + a := by
  have hq := q_of_b hp hL b0 b2 bt
  rcases h with ⟨h1, h2⟩ | ⟨h1, h2, h3, h4, h5⟩ | ⟨h1, h2⟩
  · unfold e_tm at ha
    rw [if_pos h1, if_neg (show ¬ b = 3 by omega)] at ha
    have e : τ.2.2 + (τ.2.1 - q_of pl b) = a := Option.some.inj ha
    omega
  · unfold e_tm at ha
    rw [if_neg (by omega), if_pos h1, if_neg (show ¬ b = 3 by omega)] at ha
    by_cases hb : b = τ.2.1
    · rw [if_pos hb] at ha
      have e : 0 + τ.2.2 = a := Option.some.inj ha
      rw [hb]
      omega
    · rw [if_neg hb] at ha; cases ha
  · unfold e_tm at ha
    rw [if_neg (by omega), if_neg (by omega), if_pos h1] at ha
    change l_add (l_L (E_G G (q_of pl) b (-1)) V τ.2.1.toNat) τ.2.2 = some a at ha
    cases hx : l_L (E_G G (q_of pl) b (-1)) V τ.2.1.toNat with
    | none => rw [hx] at ha; cases ha
    | some x =>
      rw [hx] at ha
      have e : x + τ.2.2 = a := Option.some.inj ha
      have := h2 b b0 (by omega) (Or.inr bt) x hx
      unfold bnd at this
      rw [if_neg (by omega)] at this
      omega
theorem TV_d (hp : PRO G pl V S K Ln) (hL : LNO pl ln) (h : TVL G pl V ln τ y0) (hy : y0 - τ.2.2 ≤ y) (ha : l_tm (l_L (E_G G (q_of pl) 3 (-1)) V) (e_tm (q_of pl) 3 τ) = some a) : -a ≤ y := by
  rcases h with ⟨h1, h2⟩ | ⟨h1, h2, h3, h4, h5⟩ | ⟨h1, h2⟩
  · unfold e_tm at ha
    rw [if_pos h1, if_pos rfl] at ha
    have e : τ.2.2 + -τ.2.1 = a := Option.some.inj ha
    omega
  · have hq := q_of_b hp hL h3 h4 h5
    unfold e_tm at ha
    rw [if_neg (by omega), if_pos h1, if_pos rfl] at ha
    have e : -q_of pl τ.2.1 + τ.2.2 = a := Option.some.inj ha
    omega
  · unfold e_tm at ha
    rw [if_neg (by omega), if_neg (by omega), if_pos h1] at ha
    change l_add (l_L (E_G G (q_of pl) 3 (-1)) V τ.2.1.toNat) τ.2.2 = some a at ha
    cases hx : l_L (E_G G (q_of pl) 3 (-1)) V τ.2.1.toNat with
    | none => rw [hx] at ha; cases ha
    | some x =>
      rw [hx] at ha
      have e : x + τ.2.2 = a := Option.some.inj ha
      have := h2 3 (by decide) (by decide) (Or.inl rfl) x hx
      unfold bnd at this
      rw [if_pos rfl] at this
      omega
/-- a version that isn't JOINED or ROUND -/
theorem SB_n (hp : PRO G pl V S K Ln) (hL : LNO pl ln) (w0 : 0 ≤ w) (w1 : w < V) (hm : ¬ v_meet (gV G w)) (hf : (gV G w).1.2.2.2.1 = -1 ∨ ∃ z, SBD G pl V ln (gV G w).1.2.2.2.1 z ∧ y = z + (gV G w).2.2.1) (hu : (gV G w).2.2.2.1.1 = 0 ∨ ∃ z, TVL G pl V ln (gV G w).2.2.2.1 z ∧ y ≤ z + (gV G w).2.2.2.1.2.2) (hd : (gV G w).2.2.2.2.1 = 0 ∨ ∃ z, TVL G pl V ln (gV G w).2.2.2.2 z ∧ z - (gV G w).2.2.2.2.2.2 ≤ y) : SBD G pl V ln w y := by
  intro b b0 b1 bt a ha
  have hl := E_G_W (b := b) (wo := -1) hp.1 (PRO_q hp) ⟨b0, b1⟩
  have hfx := l_L_fix hl w.toNat (by omega)
  rw [l_F_n (by rw [Int.toNat_of_nonneg w0]; exact hm), Int.toNat_of_nonneg w0, if_neg (by omega)] at hfx
  rw [ha] at hfx
  have A : ∀ a1, l_fr (l_L (E_G G (q_of pl) b (-1)) V) (e_fr b (gV G w)) = some a1 → bnd ln b y a1 := by
    intro a1 h1
    unfold e_fr at h1
    rcases hf with hf | ⟨z, hz, ey⟩
    · rw [if_pos hf] at h1; cases h1
    · by_cases hn : (gV G w).1.2.2.2.1 = -1
      · rw [if_pos hn] at h1; cases h1
      · rw [if_neg hn] at h1
        change l_add (l_L (E_G G (q_of pl) b (-1)) V (gV G w).1.2.2.2.1.toNat) _ = some a1 at h1
        cases hx : l_L (E_G G (q_of pl) b (-1)) V (gV G w).1.2.2.2.1.toNat with
        | none => rw [hx] at h1; cases h1
        | some x =>
          rw [hx] at h1
          have hb := hz b b0 b1 bt x hx
          unfold bnd at hb ⊢
          by_cases b3 : b = 3
          · rw [if_pos b3] at hb h1 ⊢
            have e : x + -(gV G w).2.2.1 = a1 := Option.some.inj h1
            omega
          · rw [if_neg b3] at hb h1 ⊢
            have e : x + (gV G w).2.2.1 = a1 := Option.some.inj h1
            omega
  have B : ∀ a1, l_tm (l_L (E_G G (q_of pl) b (-1)) V) (e_tm (q_of pl) b (e_tt b (gV G w))) = some a1 → bnd ln b y a1 := by
    intro a1 h1
    unfold bnd
    by_cases b3 : b = 3
    · subst b3
      rw [if_pos rfl]
      have et : e_tt 3 (gV G w) = (gV G w).2.2.2.2 := by unfold e_tt; rw [if_pos rfl]
      rw [et] at h1
      rcases hd with hd | ⟨z, h2, h3⟩
      · unfold e_tm at h1
        rw [if_neg (by omega), if_neg (by omega), if_neg (by omega)] at h1
        cases h1
      · exact TV_d hp hL h2 h3 h1
    · rw [if_neg b3]
      have et : e_tt b (gV G w) = (gV G w).2.2.2.1 := by unfold e_tt; rw [if_neg b3]
      rw [et] at h1
      rcases hu with hu | ⟨z, h2, h3⟩
      · unfold e_tm at h1
        rw [if_neg (by omega), if_neg (by omega), if_neg (by omega)] at h1
        cases h1
      · exact TV_u hp hL b0 (by omega) (by rcases bt with q | q; exact absurd q b3; exact q) h2 h3 h1
  generalize l_fr (l_L (E_G G (q_of pl) b (-1)) V) (e_fr b (gV G w)) = o1 at *
  generalize l_tm (l_L (E_G G (q_of pl) b (-1)) V) (e_tm (q_of pl) b (e_tt b (gV G w))) = o2 at *
  cases o1 with
  | none =>
    cases o2 with
    | none => cases hfx
    | some x2 =>
      have e : a = x2 := Option.some.inj hfx
      rw [e]
      exact B x2 rfl
  | some x1 =>
    cases o2 with
    | none =>
      have e : a = x1 := Option.some.inj hfx
      rw [e]
      exact A x1 rfl
    | some x2 =>
      have e : a = min x1 x2 := Option.some.inj hfx
      by_cases h : x1 ≤ x2
      · rw [show a = x1 by omega]; exact A x1 rfl
      · rw [show a = x2 by omega]; exact B x2 rfl
/-- what is shown holds -/
theorem SB_U {k : Int} (hp : PRO G pl V S K Ln) (k0 : 0 ≤ k) (k1 : k < K) (h : SBD G pl V ln (gC G k).1 y) (hs : shU G pl V (-1) k = 1) : y < ln (gK G k).2.1 := by
  obtain ⟨⟨-, w2, -⟩, -⟩ := PRO_k hp k0 k1
  unfold shU at hs
  cases hl : l_L (E_G G (q_of pl) (gK G k).2.1 (-1)) V (gC G k).1.toNat with
  | none => rw [hl] at hs; exact absurd hs (by decide)
  | some a =>
    have hb := h _ w2.1 (by omega) (Or.inr w2.2.2) a hl
    unfold bnd at hb
    rw [if_neg (by omega)] at hb
    rw [hl] at hs
    change (if a ≤ -1 then (1 : Int) else 0) = 1 at hs
    by_cases q : a ≤ -1
    · omega
    · rw [if_neg q] at hs; exact absurd hs (by decide)
theorem SB_D {k : Int} (h : SBD G pl V ln (gC G k).1 y) (hs : shD G pl V (-1) k = 1) : 0 ≤ y := by
  unfold shD at hs
  cases hl : l_L (E_G G (q_of pl) 3 (-1)) V (gC G k).1.toNat with
  | none => rw [hl] at hs; exact absurd hs (by decide)
  | some a =>
    have hb := h 3 (by decide) (by decide) (Or.inl rfl) a hl
    unfold bnd at hb
    rw [if_pos rfl] at hb
    rw [hl] at hs
    change (if a ≤ 0 then (1 : Int) else 0) = 1 at hs
    by_cases q : a ≤ 0
    · omega
    · rw [if_neg q] at hs; exact absurd hs (by decide)
end SND
