/-! ONE INDUCTION over the pieces of a program, with what is known where each begins and ends -/
def PCX (G : GT) (V S K Ln : Nat) (P : SO) (o : NO) (ar s k l v c : Int) (now : Int → Int) : Prop :=
  (0 ≤ v ∧ 0 ≤ s ∧ 0 ≤ k ∧ 0 ≤ l) ∧ (NWI now v ∧ nz now = now ∧ NWV G now) ∧ (-1 ≤ ar ∧ ar < l ∧ ∃ n, PD G n ar) ∧ (s + P.1.length ≤ S ∧ k + P.2.1.length ≤ K ∧ l + P.2.2.length ≤ Ln ∧ v + o.2.1.length ≤ V) ∧ (NWI o.1 (v + o.2.1.length) ∧ nz o.1 = o.1 ∧ NWV G o.1) ∧ SEG G P o s k l v c
abbrev PST : Type := (d : Nat) → ST d → Int → Int → Int → Int → Int → Int → (Int → Int) → Prop
abbrev PLT : Type := (d : Nat) → List (ST d) → Int → Int → Int → Int → Int → Int → (Int → Int) → Prop
theorem PC_ind {G : GT} {pl : Int → Int} {V S K Ln : Nat} {P : PST} {PL : PLT}
    (hb0 : ∀ (x : SB) (ar s k l v c : Int) (now : Int → Int), VALb pl x → PCX G V S K Ln (s_b x ar s k l) (n_b x s k l v c ar now) ar s k l v c now → P 0 x ar s k l v c now)
    (hbS : ∀ (d : Nat) (x : SB) (ar s k l v c : Int) (now : Int → Int), VALb pl x → PCX G V S K Ln (s_b x ar s k l) (n_b x s k l v c ar now) ar s k l v c now → P (d + 1) (Sum.inl x) ar s k l v c now)
    (hif : ∀ (d : Nat) (t : TT) (A B : List (ST d)) (ar s k l v c : Int) (now : Int → Int), VALt pl t → VALl (VALS pl d) A → VALl (VALS pl d) B → PCX G V S K Ln (s_if t (s_L d A ar) (s_L d B ar) ar s k l) (n_if t (tbits (ks_L d A ++ ks_L d B) 0) (n_LL d A) (n_LL d B) s k l v c ar now) ar s k l v c now →
      ∀ oA oB PA PB vA vF vB vJ cA cF cB cJ sB kB lB, SIF G t (tbits (ks_L d A ++ ks_L d B) 0) (s_L d A) (s_L d B) (n_LL d A) (n_LL d B) s k l v c ar now oA oB PA PB vA vF vB vJ cA cF cB cJ sB kB lB → PCX G V S K Ln PA oA ar (s + 1) k l vA cA (v_sn t v now) → PCX G V S K Ln PB oB ar sB kB lB vB cB (v_sn t vF now) →
      PL d A ar (s + 1) k l vA cA (v_sn t v now) → PL d B ar sB kB lB vB cB (v_sn t vF now) → P (d + 1) (Sum.inr ((false, t), A, B)) ar s k l v c now)
    (hwh : ∀ (d : Nat) (t : TT) (A B : List (ST d)) (ar s k l v c : Int) (now : Int → Int), VALt pl t → VALl (VALS pl d) A → PCX G V S K Ln (s_wh t (s_L d A l) ar s k l) (n_wh t (tbits (ks_L d A) 0) (n_LL d A) s k l v c ar now) ar s k l v c now →
      ∀ now1 oA PA n vH vA vF cH cA cF, SWH G t (tbits (ks_L d A) 0) (s_L d A) (n_LL d A) s k l v c ar now now1 oA PA n vH vA vF cH cA cF → (NWI now1 vH ∧ nz now1 = now1 ∧ NWV G now1) → PCX G V S K Ln PA oA l (s + 1) k (l + 1) vA cA (v_sn t vH now1) →
      PL d A l (s + 1) k (l + 1) vA cA (v_sn t vH now1) → P (d + 1) (Sum.inr ((true, t), A, B)) ar s k l v c now)
    (hn : ∀ (d : Nat) (ar s k l v c : Int) (now : Int → Int), PCX G V S K Ln ([], [], []) (now, [], [], [], [], []) ar s k l v c now → PL d [] ar s k l v c now)
    (hc : ∀ (d : Nat) (x : ST d) (L : List (ST d)) (ar s k l v c : Int) (now : Int → Int), VALS pl d x → VALl (VALS pl d) L → ∀ oA PA oB PB, oA = n_S d x s k l v c ar now → PA = s_S d x ar s k l → oB = n_LL d L (s + PA.1.length) (k + PA.2.1.length) (l + PA.2.2.length) (v + oA.2.1.length) (c + oA.2.2.2.2.2.length) ar oA.1 → PB = s_L d L ar (s + PA.1.length) (k + PA.2.1.length) (l + PA.2.2.length) → n_LL d (x :: L) s k l v c ar now = o_app oA oB → s_L d (x :: L) ar s k l = so_app PA PB →
      PCX G V S K Ln PA oA ar s k l v c now → PCX G V S K Ln PB oB ar (s + PA.1.length) (k + PA.2.1.length) (l + PA.2.2.length) (v + oA.2.1.length) (c + oA.2.2.2.2.2.length) oA.1 → P d x ar s k l v c now → PL d L ar (s + PA.1.length) (k + PA.2.1.length) (l + PA.2.2.length) (v + oA.2.1.length) (c + oA.2.2.2.2.2.length) oA.1 → PL d (x :: L) ar s k l v c now) :
    ∀ d : Nat, (∀ x : ST d, VALS pl d x → ∀ ar s k l v c now, PCX G V S K Ln (s_S d x ar s k l) (n_S d x s k l v c ar now) ar s k l v c now → P d x ar s k l v c now) ∧ (∀ L : List (ST d), VALl (VALS pl d) L → ∀ ar s k l v c now, PCX G V S K Ln (s_L d L ar s k l) (n_LL d L s k l v c ar now) ar s k l v c now → PL d L ar s k l v c now) := by
  refine ST_ind (P := fun d x => ∀ ar s k l v c now, PCX G V S K Ln (s_S d x ar s k l) (n_S d x s k l v c ar now) ar s k l v c now → P d x ar s k l v c now) (PL := fun d L => ∀ ar s k l v c now, PCX G V S K Ln (s_L d L ar s k l) (n_LL d L s k l v c ar now) ar s k l v c now → PL d L ar s k l v c now) ?_ ?_ ?_ ?_ ?_ ?_
  · intro x hx ar s k l v c now h
    rw [s_S_0, n_S_0] at h
    exact hb0 x ar s k l v c now hx h
  · intro d x hx ar s k l v c now h
    rw [s_S_b, n_S_b] at h
    exact hbS d x ar s k l v c now hx h
  · intro d t A B ht vA vB hA hB ar s k l v c now h
    rw [s_S_if, n_S_if] at h
    have h' := h
    obtain ⟨⟨h0, hs, hk, hl⟩, ⟨hn', hnz, hv⟩, ⟨ha1, ha2, n, hp⟩, ⟨b1, b2, b3, b4⟩, -, hseg⟩ := h'
    obtain ⟨oA, oB, PA, PB, vA', vF, vB', vJ, cA, cF, cB, cJ, sB, kB, lB, hS⟩ := SEG_if (LN_L d A vA) hseg
    have hS' := hS
    obtain ⟨⟨eA, ePA, eB, ePB⟩, ⟨x1, x2, x3, x4⟩, -, ⟨w1, w2, w3⟩, -, ⟨y1, y2, y3, y4, y5⟩, -, z1, z2, z3, z4⟩ := hS'
    have ePB' := ePB
    rw [w1, w2, w3] at ePB'
    have es := s_if_eq (t := t) (ar := ar) (pA := s_L d A ar) (pB := s_L d B ar) ePA ePB'
    have nA : NWI (v_sn t v now) vA' := by rw [x1]; exact NWI_sn hn' (Int.le_refl _) h0
    have nF : NWI (v_sn t vF now) vB' := by rw [x3, ← z4]; exact NWI_sn hn' (by omega) h0
    have wA := (WKN_S (pl := pl) d).2 A vA G n ar (s + 1) k l vA' cA (v_sn t v now) (by omega) (by omega) nA (nz_sn hnz) (NWV_sn hv ht y1) ha1 ha2 hp
    rw [← eA, ← ePA] at wA
    obtain ⟨-, nvA⟩ := wA y2
    have wB := (WKN_S (pl := pl) d).2 B vB G n ar sB kB lB vB' cB (v_sn t vF now) (by omega) (by omega) nF (nz_sn hnz) (NWV_sn hv ht y3) ha1 (by omega) hp
    rw [← eB, ← ePB] at wB
    obtain ⟨-, nvB⟩ := wB y4
    have oka := (PO_L d A) (s + 1) k l vA' cA ar (v_sn t v now) (nz_sn hnz)
    rw [← eA] at oka
    have okb := (PO_L d B) sB kB lB vB' cB ar (v_sn t vF now) (nz_sn hnz)
    rw [← eB] at okb
    rw [es] at b1 b2 b3
    rw [z2] at b4
    dsimp only at b1 b2 b3
    rw [List.length_cons, List.length_append] at b1
    rw [List.length_append] at b2 b3
    have cxA : PCX G V S K Ln PA oA ar (s + 1) k l vA' cA (v_sn t v now) := ⟨⟨by omega, by omega, by omega, by omega⟩, ⟨nA, nz_sn hnz, NWV_sn hv ht y1⟩, ⟨ha1, ha2, n, hp⟩, ⟨by omega, by omega, by omega, by omega⟩, ⟨NWI_OKO nA (by omega) oka.1, oka.2, nvA⟩, y2⟩
    have cxB : PCX G V S K Ln PB oB ar sB kB lB vB' cB (v_sn t vF now) := ⟨⟨by omega, by omega, by omega, by omega⟩, ⟨nF, nz_sn hnz, NWV_sn hv ht y3⟩, ⟨ha1, by omega, n, hp⟩, ⟨by omega, by omega, by omega, by omega⟩, ⟨NWI_OKO nF (by omega) okb.1, okb.2, nvB⟩, y4⟩
    have cxA' := cxA
    have cxB' := cxB
    rw [eA, ePA] at cxA'
    rw [eB, ePB] at cxB'
    exact hif d t A B ar s k l v c now ht vA vB h oA oB PA PB vA' vF vB' vJ cA cF cB cJ sB kB lB hS cxA cxB (hA _ _ _ _ _ _ _ cxA') (hB _ _ _ _ _ _ _ cxB')
  · intro d t A B ht vA hA ar s k l v c now h
    rw [s_S_wh, n_S_wh] at h
    have h' := h
    obtain ⟨⟨h0, hs, hk, hl⟩, ⟨hn', hnz, hv⟩, ⟨ha1, ha2, n, hp⟩, ⟨b1, b2, b3, b4⟩, -, hseg⟩ := h'
    obtain ⟨now1, oA, PA, n', vH, vA', vF, cH, cA, cF, hS⟩ := SEG_wh hseg
    have hS' := hS
    obtain ⟨⟨eA, ePA, e1, en⟩, ⟨x1, x2, x3⟩, -, ⟨hR, hM, hL, hP⟩, ⟨y1, y2, y3, y4⟩, -, z1, z2, z3, z4⟩ := hS'
    have es := s_wh_eq (t := t) (ar := ar) (pA := s_L d A l) ePA
    have hn1 : NWI now1 vH := by rw [e1, x1]; exact NWI_now _ 8 0 v now h0 hn'
    have hz1 : nz now1 = now1 := by rw [e1]; exact nz_now 8 0 v now hnz
    have hv1 : NWV G now1 := by rw [e1]; exact NWV_round 8 0 v now (by decide) (by decide) hv y1
    have nA : NWI (v_sn t vH now1) vA' := by rw [x2, en]; exact NWI_sn hn1 (Int.le_refl _) (by omega)
    have pd : PD G (n + 1) l := Or.inr ⟨by omega, by rw [hL]; exact hp⟩
    have wA := (WKN_S (pl := pl) d).2 A vA G (n + 1) l (s + 1) k (l + 1) vA' cA (v_sn t vH now1) (by omega) (by omega) nA (nz_sn hz1) (NWV_sn hv1 ht y2) (by omega) (by omega) pd
    rw [← eA, ← ePA] at wA
    obtain ⟨-, nvA⟩ := wA y3
    have oka := (PO_L d A) (s + 1) k (l + 1) vA' cA l (v_sn t vH now1) (nz_sn hz1)
    rw [← eA] at oka
    rw [es] at b1 b2 b3
    rw [z2] at b4
    dsimp only at b1 b2 b3
    rw [List.length_cons] at b1 b3
    have cxA : PCX G V S K Ln PA oA l (s + 1) k (l + 1) vA' cA (v_sn t vH now1) := ⟨⟨by omega, by omega, by omega, by omega⟩, ⟨nA, nz_sn hz1, NWV_sn hv1 ht y2⟩, ⟨by omega, by omega, n + 1, pd⟩, ⟨by omega, by omega, by omega, by omega⟩, ⟨NWI_OKO nA (by omega) oka.1, oka.2, nvA⟩, y3⟩
    have cxA' := cxA
    rw [eA, ePA] at cxA'
    exact hwh d t A B ar s k l v c now ht vA h now1 oA PA n' vH vA' vF cH cA cF hS ⟨hn1, hz1, hv1⟩ cxA (hA _ _ _ _ _ _ _ cxA')
  · intro d ar s k l v c now h
    exact hn d ar s k l v c now h
  · intro d x L vx vL h1 h2 ar s k l v c now h
    have en : n_LL d (x :: L) s k l v c ar now = o_app (n_S d x s k l v c ar now) (n_LL d L (s + (n_S d x s k l v c ar now).2.2.1.length) (k + (n_S d x s k l v c ar now).2.2.2.1.length) (l + (n_S d x s k l v c ar now).2.2.2.2.1.length) (v + (n_S d x s k l v c ar now).2.1.length) (c + (n_S d x s k l v c ar now).2.2.2.2.2.length) ar (n_S d x s k l v c ar now).1) := rfl
    have es : s_L d (x :: L) ar s k l = so_app (s_S d x ar s k l) (s_L d L ar (s + (s_S d x ar s k l).1.length) (k + (s_S d x ar s k l).2.1.length) (l + (s_S d x ar s k l).2.2.length)) := rfl
    obtain ⟨q1, q2, q3⟩ := LN_S d x vx ar s k l v c now
    have h' := h
    obtain ⟨⟨h0, hs, hk, hl⟩, ⟨hn', hnz, hv⟩, ⟨ha1, ha2, n, hp⟩, ⟨b1, b2, b3, b4⟩, hout, hseg⟩ := h'
    obtain ⟨ok, hz'⟩ := (PO_S d x) s k l v c ar now hnz
    have hn2 := NWI_OKO hn' h0 ok
    have wx := (WKN_S (pl := pl) d).1 x vx G n ar s k l v c now h0 hs hn' hnz hv ha1 ha2 hp
    have hP := h1 ar s k l v c now
    rw [q1, q2, q3] at en
    have en' := en
    have es' := es
    obtain ⟨oA, eoA⟩ : ∃ oA, oA = n_S d x s k l v c ar now := ⟨_, rfl⟩
    obtain ⟨PA, ePA⟩ : ∃ PA, PA = s_S d x ar s k l := ⟨_, rfl⟩
    rw [← eoA, ← ePA] at en' q1 q2 q3 wx hP
    rw [← ePA] at es'
    rw [← eoA] at hz' hn2
    obtain ⟨oB, eoB⟩ : ∃ oB, oB = n_LL d L (s + PA.1.length) (k + PA.2.1.length) (l + PA.2.2.length) (v + oA.2.1.length) (c + oA.2.2.2.2.2.length) ar oA.1 := ⟨_, rfl⟩
    obtain ⟨PB, ePB⟩ : ∃ PB, PB = s_L d L ar (s + PA.1.length) (k + PA.2.1.length) (l + PA.2.2.length) := ⟨_, rfl⟩
    rw [← eoB] at en'
    rw [← ePB] at es'
    rw [en', es'] at hseg
    rw [es'] at b1 b2 b3
    rw [en', oap_2, List.length_append] at b4
    rw [en', oap_1, oap_2, List.length_append] at hout
    rw [SEG_app q1 q2 q3] at hseg
    obtain ⟨g1, g2⟩ := hseg
    obtain ⟨-, nvx⟩ := wx g1
    unfold so_app at b1 b2 b3
    dsimp only at b1 b2 b3
    rw [List.length_append] at b1 b2 b3
    have cxA : PCX G V S K Ln PA oA ar s k l v c now := ⟨⟨h0, hs, hk, hl⟩, ⟨hn', hnz, hv⟩, ⟨ha1, ha2, n, hp⟩, ⟨by omega, by omega, by omega, by omega⟩, ⟨hn2, hz', nvx⟩, g1⟩
    have hout' : NWI oB.1 (v + (oA.2.1.length : Nat) + (oB.2.1.length : Nat)) := by
      have e : v + ((oA.2.1.length + oB.2.1.length : Nat) : Int) = v + (oA.2.1.length : Nat) + (oB.2.1.length : Nat) := by omega
      rw [← e]; exact hout.1
    have cxB : PCX G V S K Ln PB oB ar (s + PA.1.length) (k + PA.2.1.length) (l + PA.2.2.length) (v + oA.2.1.length) (c + oA.2.2.2.2.2.length) oA.1 := ⟨⟨by omega, by omega, by omega, by omega⟩, ⟨hn2, hz', nvx⟩, ⟨ha1, by omega, n, hp⟩, ⟨by omega, by omega, by omega, by omega⟩, ⟨hout', hout.2.1, hout.2.2⟩, g2⟩
    have cxB' := cxB
    rw [eoB, ePB] at cxB'
    exact hc d x L ar s k l v c now vx vL oA PA oB PB eoA ePA eoB ePB en' es' cxA cxB (hP cxA) (h2 _ _ _ _ _ _ _ cxB')
