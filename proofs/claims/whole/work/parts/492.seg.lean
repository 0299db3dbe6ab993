/-! the rows of a whole program, by number; a piece of it -/
abbrev GT : Type := (Int → SR) × (Int → KR) × (Int → LR) × (Int → VR) × (Int → MR) × (Int → NC) × (Int → NP) × (Int → CD)
abbrev gR (G : GT) : Int → SR := G.1
abbrev gK (G : GT) : Int → KR := G.2.1
abbrev gL (G : GT) : Int → LR := G.2.2.1
abbrev gV (G : GT) : Int → VR := G.2.2.2.1
abbrev gM (G : GT) : Int → MR := G.2.2.2.2.1
abbrev gC (G : GT) : Int → NC := G.2.2.2.2.2.1
abbrev gP (G : GT) : Int → NP := G.2.2.2.2.2.2.1
abbrev gD (G : GT) : Int → CD := G.2.2.2.2.2.2.2
abbrev IS {β : Type} (f : Int → β) : Int → List β → Prop := TAB (fun i x => f i = x)
def SEG (G : GT) (p : SO) (o : NO) (s k l v c : Int) : Prop := (IS (gR G) s p.1 ∧ IS (gK G) k p.2.1 ∧ IS (gL G) l p.2.2) ∧ IS (gV G) v o.2.1 ∧ IS (gM G) s o.2.2.1 ∧ IS (gC G) k o.2.2.2.1 ∧ IS (gP G) l o.2.2.2.2.1 ∧ IS (gD G) c o.2.2.2.2.2
section SGA
variable {G : GT} {t : TT} {set s k l v c ar : Int} {now : Int → Int} {gA gB : NF} {pA pB : Int → Int → Int → Int → SO}
theorem IS_app {β : Type} {f : Int → β} {a b : List β} {i : Int} : IS f i (a ++ b) ↔ IS f i a ∧ IS f (i + a.length) b := TAB_app _ _ _
theorem IS_cons {β : Type} {f : Int → β} {x : β} {b : List β} {i : Int} : IS f i (x :: b) ↔ f i = x ∧ IS f (i + 1) b := Iff.rfl
theorem IS_get {β : Type} {f : Int → β} {a : List β} {i j : Int} (h : IS f i a) (h0 : i ≤ j) (h1 : j < i + a.length) : ∃ hj : (j - i).toNat < a.length, f j = a[(j - i).toNat] := by
  have hj : (j - i).toNat < a.length := by omega
  refine ⟨hj, ?_⟩
  have := TAB_get a i h (j - i).toNat hj
  rw [show i + ((j - i).toNat : Int) = j by omega] at this
  exact this
theorem SEG_app {p p' : SO} {o o' : NO} (h1 : o.2.2.1.length = p.1.length) (h2 : o.2.2.2.1.length = p.2.1.length) (h3 : o.2.2.2.2.1.length = p.2.2.length) :
    SEG G (so_app p p') (o_app o o') s k l v c ↔ SEG G p o s k l v c ∧ SEG G p' o' (s + p.1.length) (k + p.2.1.length) (l + p.2.2.length) (v + o.2.1.length) (c + o.2.2.2.2.2.length) := by
  unfold SEG so_app o_app
  dsimp only
  rw [IS_app, IS_app, IS_app, IS_app, IS_app, IS_app, IS_app, IS_app, h1, h2, h3]
  constructor
  · rintro ⟨⟨⟨a1, b1⟩, ⟨a2, b2⟩, a3, b3⟩, ⟨a4, b4⟩, ⟨a5, b5⟩, ⟨a6, b6⟩, ⟨a7, b7⟩, a8, b8⟩
    exact ⟨⟨⟨a1, a2, a3⟩, a4, a5, a6, a7, a8⟩, ⟨b1, b2, b3⟩, b4, b5, b6, b7, b8⟩
  · rintro ⟨⟨⟨a1, a2, a3⟩, a4, a5, a6, a7, a8⟩, ⟨b1, b2, b3⟩, b4, b5, b6, b7, b8⟩
    exact ⟨⟨⟨a1, b1⟩, ⟨a2, b2⟩, a3, b3⟩, ⟨a4, b4⟩, ⟨a5, b5⟩, ⟨a6, b6⟩, ⟨a7, b7⟩, a8, b8⟩
/-- the pieces of if -/
def SIF (G : GT) (t : TT) (set : Int) (pA pB : Int → Int → Int → Int → SO) (gA gB : NF) (s k l v c ar : Int) (now : Int → Int) (oA oB : NO) (PA PB : SO) (vA vF vB vJ cA cF cB cJ sB kB lB : Int) : Prop :=
  let sv0 := v_sv now t.2.1
  let sv1 := v_sv now t.2.2
  let n := ((v_sd t sv0 sv1 3 s).length : Int)
  (oA = gA (s + 1) k l vA cA ar (v_sn t v now) ∧ PA = pA ar (s + 1) k l ∧ oB = gB sB kB lB vB cB ar (v_sn t vF now) ∧ PB = pB ar sB kB lB) ∧
  (vA = v + n ∧ vF = vA + oA.2.1.length ∧ vB = vF + n ∧ vJ = vB + oB.2.1.length) ∧ (cA = c + 2 + n ∧ cF = cA + oA.2.2.2.2.2.length + 1 ∧ cB = cF + n ∧ cJ = cB + oB.2.2.2.2.2.length) ∧
  (sB = s + 1 + PA.1.length ∧ kB = k + PA.2.1.length ∧ lB = l + PA.2.2.length) ∧
  (gR G s = ((3, -1, 0, -1, 0), (-1, -1, ar, sB, sB + PB.1.length), t) ∧ gM G s = (-1, (vJ, ((v_many set 8 0 : Nat) : Int)), (v, vF, n), (sv0, sv1))) ∧
  (IS (gV G) v (v_sd t sv0 sv1 3 s) ∧ SEG G PA oA (s + 1) k l vA cA ∧ IS (gV G) vF (v_sd t sv0 sv1 4 s) ∧ SEG G PB oB sB kB lB vB cB ∧ IS (gV G) vJ (v_join set oA.1 oB.1 s 8 0)) ∧
  (gD G c = (0, s, 0) ∧ gD G (c + 1) = (5, s, cF) ∧ IS (gD G) (c + 2) (v_cd v (v_sd t sv0 sv1 3 s).length) ∧ gD G (cF - 1) = (7, cJ, 0) ∧ IS (gD G) cF (v_cd vF (v_sd t sv0 sv1 4 s).length) ∧ IS (gD G) cJ (v_cd vJ (v_many set 8 0))) ∧
  (n_if t set gA gB s k l v c ar now).1 = v_now set 8 0 vJ now ∧ ((n_if t set gA gB s k l v c ar now).2.1.length : Int) = vJ - v + (v_many set 8 0 : Nat) ∧ ((n_if t set gA gB s k l v c ar now).2.2.2.2.2.length : Int) = cJ - c + (v_many set 8 0 : Nat) ∧ (v_sd t sv0 sv1 4 s).length = (v_sd t sv0 sv1 3 s).length
theorem v_sd_34 {sv0 sv1 : Int} : (v_sd t sv0 sv1 4 s).length = (v_sd t sv0 sv1 3 s).length := by
  have h3 : ((v_sd t sv0 sv1 3 s).length : Int) = (if v_own0 t then 1 else 0) + (if v_own1 t then 1 else 0) := v_sd_len
  have h4 : ((v_sd t sv0 sv1 4 s).length : Int) = (if v_own0 t then 1 else 0) + (if v_own1 t then 1 else 0) := v_sd_len
  omega
theorem IS_eq {β : Type} {f : Int → β} {a : List β} {i j : Int} (h : IS f i a) (e : i = j) : IS f j a := e ▸ h
theorem SEG_eq {p : SO} {o : NO} {s' k' l' v' c' : Int} (h : SEG G p o s k l v c) (e1 : s = s') (e2 : k = k') (e3 : l = l') (e4 : v = v') (e5 : c = c') : SEG G p o s' k' l' v' c' := by
  subst e1 e2 e3 e4 e5
  exact h
theorem SEG_if (lA : LN pA gA) (h : SEG G (s_if t (pA ar) (pB ar) ar s k l) (n_if t set gA gB s k l v c ar now) s k l v c) :
    ∃ oA oB PA PB vA vF vB vJ cA cF cB cJ sB kB lB, SIF G t set pA pB gA gB s k l v c ar now oA oB PA PB vA vF vB vJ cA cF cB cJ sB kB lB := by
  have eq34 := v_sd_34 (t := t) (s := s) (sv0 := v_sv now t.2.1) (sv1 := v_sv now t.2.2)
  obtain ⟨oA, hA⟩ : ∃ oA, oA = gA (s + 1) k l (v + ((v_sd t (v_sv now t.2.1) (v_sv now t.2.2) 3 s).length : Nat)) (c + 2 + ((v_sd t (v_sv now t.2.1) (v_sv now t.2.2) 3 s).length : Nat)) ar (v_sn t v now) := ⟨_, rfl⟩
  obtain ⟨PA, hPA⟩ : ∃ PA, PA = pA ar (s + 1) k l := ⟨_, rfl⟩
  obtain ⟨oB, hB⟩ : ∃ oB, oB = gB (s + 1 + oA.2.2.1.length) (k + oA.2.2.2.1.length) (l + oA.2.2.2.2.1.length) (v + ((v_sd t (v_sv now t.2.1) (v_sv now t.2.2) 3 s).length : Nat) + oA.2.1.length + ((v_sd t (v_sv now t.2.1) (v_sv now t.2.2) 4 s).length : Nat)) (c + 2 + ((v_sd t (v_sv now t.2.1) (v_sv now t.2.2) 3 s).length : Nat) + oA.2.2.2.2.2.length + 1 + ((v_sd t (v_sv now t.2.1) (v_sv now t.2.2) 4 s).length : Nat)) ar (v_sn t (v + ((v_sd t (v_sv now t.2.1) (v_sv now t.2.2) 3 s).length : Nat) + oA.2.1.length) now) := ⟨_, rfl⟩
  obtain ⟨PB, hPB⟩ : ∃ PB, PB = pB ar (s + 1 + PA.1.length) (k + PA.2.1.length) (l + PA.2.2.length) := ⟨_, rfl⟩
  obtain ⟨a1, a2, a3⟩ := lA ar (s + 1) k l (v + ((v_sd t (v_sv now t.2.1) (v_sv now t.2.2) 3 s).length : Nat)) (c + 2 + ((v_sd t (v_sv now t.2.1) (v_sv now t.2.2) 3 s).length : Nat)) (v_sn t v now)
  rw [← hA, ← hPA] at a1 a2 a3
  have en := n_if_eq (t := t) (set := set) (gB := gB) rfl rfl hA hB
  have es := s_if_eq (t := t) (ar := ar) (pA := pA ar) (pB := pB ar) hPA hPB
  rw [en, es] at h
  rw [a1, a2, a3] at hB
  refine ⟨oA, oB, PA, PB, v + ((v_sd t (v_sv now t.2.1) (v_sv now t.2.2) 3 s).length : Int), v + ((v_sd t (v_sv now t.2.1) (v_sv now t.2.2) 3 s).length : Int) + (oA.2.1.length : Int), v + ((v_sd t (v_sv now t.2.1) (v_sv now t.2.2) 3 s).length : Int) + (oA.2.1.length : Int) + ((v_sd t (v_sv now t.2.1) (v_sv now t.2.2) 3 s).length : Int), v + ((v_sd t (v_sv now t.2.1) (v_sv now t.2.2) 3 s).length : Int) + (oA.2.1.length : Int) + ((v_sd t (v_sv now t.2.1) (v_sv now t.2.2) 3 s).length : Int) + (oB.2.1.length : Int), c + 2 + ((v_sd t (v_sv now t.2.1) (v_sv now t.2.2) 3 s).length : Int), c + 2 + ((v_sd t (v_sv now t.2.1) (v_sv now t.2.2) 3 s).length : Int) + (oA.2.2.2.2.2.length : Int) + 1, c + 2 + ((v_sd t (v_sv now t.2.1) (v_sv now t.2.2) 3 s).length : Int) + (oA.2.2.2.2.2.length : Int) + 1 + ((v_sd t (v_sv now t.2.1) (v_sv now t.2.2) 3 s).length : Int), c + 2 + ((v_sd t (v_sv now t.2.1) (v_sv now t.2.2) 3 s).length : Int) + (oA.2.2.2.2.2.length : Int) + 1 + ((v_sd t (v_sv now t.2.1) (v_sv now t.2.2) 3 s).length : Int) + (oB.2.2.2.2.2.length : Int), s + 1 + PA.1.length, k + PA.2.1.length, l + PA.2.2.length, ?_⟩
  unfold SIF
  dsimp only
  rw [en]
  dsimp only
  unfold SEG at h ⊢
  dsimp only at h
  simp only [IS_app, IS_cons, List.length_append, List.length_cons, v_cd_len, v_join_len] at h
  obtain ⟨⟨⟨r1, r2, r3⟩, ⟨k1, k2⟩, l1, l2⟩, ⟨v1, v2, v3, v4, v5⟩, ⟨m1, m2, m3⟩, ⟨c1, c2⟩, ⟨p1, p2⟩, d1, d2, d3, d4, d5, d6, d7, d8⟩ := h
  rw [a1] at m3
  rw [a2] at c2
  rw [a3] at p2
  refine ⟨⟨hA, hPA, ?_, hPB⟩, ⟨rfl, rfl, rfl, rfl⟩, ⟨rfl, rfl, rfl, rfl⟩, ⟨rfl, rfl, rfl⟩, ⟨r1, ?_⟩, ⟨v1, ⟨⟨r2, k1, l1⟩, v2, m2, c1, p1, IS_eq d4 (by omega)⟩, v3, ⟨⟨r3, k2, l2⟩, IS_eq v4 (by omega), m3, c2, p2, IS_eq d7 (by omega)⟩, IS_eq v5 (by omega)⟩, ⟨d1, ?_, IS_eq d3 (by omega), ?_, ?_, ?_⟩, ?_, ?_, ?_, eq34⟩
  · rw [hB, eq34]
  · rw [m1, eq34]
  · rw [d2]
  · rw [show c + 2 + ((v_sd t (v_sv now t.2.1) (v_sv now t.2.2) 3 s).length : Int) + (oA.2.2.2.2.2.length : Int) + 1 - 1 = c + 1 + 1 + ((v_sd t (v_sv now t.2.1) (v_sv now t.2.2) 3 s).length : Int) + (oA.2.2.2.2.2.length : Int) by omega, d5, eq34]
  · exact IS_eq d6 (by omega)
  · rw [eq34] at d8; exact IS_eq d8 (by omega)
  · rw [eq34]
  · simp only [List.length_append, List.length_cons, v_cd_len, v_join_len]; omega
  · simp only [List.length_append, List.length_cons, v_cd_len, v_join_len]; omega
/-- the pieces of while -/
def SWH (G : GT) (t : TT) (set : Int) (pA : Int → Int → Int → Int → SO) (gA : NF) (s k l v c ar : Int) (now now1 : Int → Int) (oA : NO) (PA : SO) (n vH vA vF cH cA cF : Int) : Prop :=
  let sv0 := v_sv now1 t.2.1
  let sv1 := v_sv now1 t.2.2
  let m := (((v_many set 8 0) : Nat) : Int)
  (oA = gA (s + 1) k (l + 1) vA cA l (v_sn t vH now1) ∧ PA = pA l (s + 1) k (l + 1) ∧ now1 = v_now set 8 0 v now ∧ n = ((v_sd t sv0 sv1 3 s).length : Int)) ∧
  (vH = v + m ∧ vA = vH + n ∧ vF = vA + oA.2.1.length) ∧ (cH = c + 1 + m ∧ cA = cH + 2 + n ∧ cF = cA + oA.2.2.2.2.2.length + 1) ∧
  (gR G s = ((4, -1, 0, -1, 0), (-1, l, ar, s + 1 + PA.1.length, s + 1 + PA.1.length), t) ∧ gM G s = (-1, (v, m), (vH, vF, n), (sv0, sv1)) ∧ gL G l = (s, ar) ∧ gP G l = (v, m)) ∧
  (IS (gV G) v (v_round set now oA.1 s 8 0) ∧ IS (gV G) vH (v_sd t sv0 sv1 3 s) ∧ SEG G PA oA (s + 1) k (l + 1) vA cA ∧ IS (gV G) vF (v_sd t sv0 sv1 4 s)) ∧
  (gD G c = (8, l, 0) ∧ IS (gD G) (c + 1) (v_cd v (v_many set 8 0)) ∧ gD G cH = (0, s, 0) ∧ gD G (cH + 1) = (5, s, cF) ∧ IS (gD G) (cH + 2) (v_cd vH (v_sd t sv0 sv1 3 s).length) ∧ gD G (cF - 1) = (7, c + 1, 0) ∧ IS (gD G) cF (v_cd vF (v_sd t sv0 sv1 4 s).length) ∧ gD G (cF + n) = (9, l, 0)) ∧
  (n_wh t set gA s k l v c ar now).1 = v_sn t vF now1 ∧ ((n_wh t set gA s k l v c ar now).2.1.length : Int) = vF + n - v ∧ ((n_wh t set gA s k l v c ar now).2.2.2.2.2.length : Int) = cF + n + 1 - c ∧ (v_sd t sv0 sv1 4 s).length = (v_sd t sv0 sv1 3 s).length
theorem SEG_wh (h : SEG G (s_wh t (pA l) ar s k l) (n_wh t set gA s k l v c ar now) s k l v c) :
    ∃ now1 oA PA n vH vA vF cH cA cF, SWH G t set pA gA s k l v c ar now now1 oA PA n vH vA vF cH cA cF := by
  obtain ⟨now1, h1⟩ : ∃ now1, now1 = v_now set 8 0 v now := ⟨_, rfl⟩
  have eq34 := v_sd_34 (t := t) (s := s) (sv0 := v_sv now1 t.2.1) (sv1 := v_sv now1 t.2.2)
  obtain ⟨oA, hA⟩ : ∃ oA, oA = gA (s + 1) k (l + 1) (v + (v_many set 8 0 : Nat) + ((v_sd t (v_sv now1 t.2.1) (v_sv now1 t.2.2) 3 s).length : Nat)) (c + 1 + (v_many set 8 0 : Nat) + 2 + ((v_sd t (v_sv now1 t.2.1) (v_sv now1 t.2.2) 3 s).length : Nat)) l (v_sn t (v + (v_many set 8 0 : Nat)) now1) := ⟨_, rfl⟩
  obtain ⟨PA, hPA⟩ : ∃ PA, PA = pA l (s + 1) k (l + 1) := ⟨_, rfl⟩
  have en := n_wh_eq (t := t) (set := set) (ar := ar) h1 rfl rfl hA
  have es := s_wh_eq (t := t) (ar := ar) (pA := pA l) hPA
  rw [en, es] at h
  refine ⟨now1, oA, PA, ((v_sd t (v_sv now1 t.2.1) (v_sv now1 t.2.2) 3 s).length : Int), v + ((v_many set 8 0 : Nat) : Int), v + ((v_many set 8 0 : Nat) : Int) + ((v_sd t (v_sv now1 t.2.1) (v_sv now1 t.2.2) 3 s).length : Int), v + ((v_many set 8 0 : Nat) : Int) + ((v_sd t (v_sv now1 t.2.1) (v_sv now1 t.2.2) 3 s).length : Int) + (oA.2.1.length : Int), c + 1 + ((v_many set 8 0 : Nat) : Int), c + 1 + ((v_many set 8 0 : Nat) : Int) + 2 + ((v_sd t (v_sv now1 t.2.1) (v_sv now1 t.2.2) 3 s).length : Int), c + 1 + ((v_many set 8 0 : Nat) : Int) + 2 + ((v_sd t (v_sv now1 t.2.1) (v_sv now1 t.2.2) 3 s).length : Int) + (oA.2.2.2.2.2.length : Int) + 1, ?_⟩
  unfold SWH
  dsimp only
  rw [en]
  dsimp only
  unfold SEG at h ⊢
  dsimp only at h
  simp only [IS_app, IS_cons, List.length_append, List.length_cons, v_cd_len, v_round_len, List.length_nil] at h
  obtain ⟨⟨⟨r1, r2⟩, k1, l1, l2⟩, ⟨v1, v2, v3, v4⟩, ⟨m1, m2⟩, c1, ⟨p1, p2⟩, d1, d2, d3, d4, d5, d6, d7, d8, d9, -⟩ := h
  refine ⟨⟨hA, hPA, h1, rfl⟩, ⟨rfl, rfl, rfl⟩, ⟨rfl, rfl, rfl⟩, ⟨r1, m1, l1, p1⟩, ⟨v1, v2, ⟨⟨r2, k1, l2⟩, v3, m2, c1, p2, IS_eq d6 (by omega)⟩, v4⟩, ⟨d1, d2, d3, ?_, IS_eq d5 (by omega), ?_, IS_eq d8 (by omega), ?_⟩, rfl, ?_, ?_, eq34⟩
  · rw [d4]
  · rw [show c + 1 + ((v_many set 8 0 : Nat) : Int) + 2 + ((v_sd t (v_sv now1 t.2.1) (v_sv now1 t.2.2) 3 s).length : Int) + (oA.2.2.2.2.2.length : Int) + 1 - 1 = c + 1 + ((v_many set 8 0 : Nat) : Int) + 1 + 1 + ((v_sd t (v_sv now1 t.2.1) (v_sv now1 t.2.2) 3 s).length : Int) + (oA.2.2.2.2.2.length : Int) by omega, d7]
  · rw [← d9]
    congr 1
    omega
  · simp only [List.length_append, List.length_cons, v_cd_len, v_round_len, List.length_nil]; omega
  · simp only [List.length_append, List.length_cons, v_cd_len, v_round_len, List.length_nil]; omega
end SGA
