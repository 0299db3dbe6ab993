/-! numbers of a run stay small; what a piece of a run leaves; guards -/
abbrev B99 (m x : Int) : Prop := -(99 * m) ≤ x ∧ x ≤ 99 * m
def BV (m : Int) (V : Nat) (σ : St) : Prop := (∀ x, 0 ≤ x → x ≤ 7 → B99 m (σ 78 x)) ∧ (∀ j : Int, 0 ≤ j → j < V → B99 m (σ 80 j)) ∧ (∀ j, 0 ≤ j → j < 40 → B99 m (σ 82 j)) ∧ (∀ j, 0 ≤ j → j < 40 → B99 m (σ 83 j)) ∧ (∀ j, 0 ≤ j → j < 40 → B99 m (σ 84 j))
def BC (n : Int) (σ : St) : Prop := (0 ≤ σ 87 4 ∧ σ 87 4 ≤ n) ∧ (0 ≤ σ 87 5 ∧ σ 87 5 ≤ n) ∧ (0 ≤ σ 87 6 ∧ σ 87 6 ≤ n)
def BE (ln : Int → Int) (σ : St) : Prop := (∀ b, 0 ≤ b → b ≤ 2 → σ 85 b = ln b ∧ 0 ≤ ln b ∧ ln b ≤ 40) ∧ (∀ d, 0 ≤ d → d ≤ 2 → -99 ≤ σ 2 d ∧ σ 2 d ≤ 99)
def BL (σ : St) : Prop := ∀ l, 0 ≤ l → l < 40 → σ 79 l = 0 ∨ σ 79 l = 1
def BM (m n o : Int) (V : Nat) (ln : Int → Int) (σ : St) : Prop := BV m V σ ∧ BC n σ ∧ (0 ≤ σ 87 3 ∧ σ 87 3 ≤ o) ∧ BE ln σ ∧ BL σ ∧ (0 ≤ σ 87 2 ∧ σ 87 2 ≤ 300) ∧ (σ 87 0 = 0 ∧ σ 87 1 = -1)
/-- how a run ends -/
def FST (σ : St) : Prop := BC 40000 σ ∧ (0 ≤ σ 87 3 ∧ σ 87 3 ≤ 300) ∧ (0 ≤ σ 87 2 ∧ σ 87 2 ≤ 300)
def RUC (a : Nat) : Prop := a = 78 ∨ a = 79 ∨ a = 80 ∨ a = 82 ∨ a = 83 ∨ a = 84 ∨ a = 86 ∨ a = 87
def NTL (ks : List (Int × Int)) (x : Int) : Prop := ∀ e ∈ ks, ¬ (e.1 = 0 ∧ e.2 = x)
def RFR (v l : Int) (ks : List (Int × Int)) (σ σ' : St) : Prop := (∀ a i, ¬ RUC a → σ' a i = σ a i) ∧ (∀ x, 0 ≤ x → x ≤ 7 → NTL ks x → σ' 78 x = σ 78 x) ∧ (∀ j, j < l → σ' 79 j = σ 79 j) ∧ (∀ j, j < v → σ' 80 j = σ 80 j)
/-- the parts that a loop guards hold -/
def GIL (G : GT) (pl : Int → Int) (V K : Nat) (σ : St) (l : Int) : Prop := ∀ k : Int, 0 ≤ k → k < K → (gdr G pl V k).1 = l → (shD G pl V (-1) k = 0 → 0 ≤ R_low G k σ) ∧ (shU G pl V (-1) k = 0 → R_low G k σ < σ 85 (gK G k).2.1)
def GIN (G : GT) (pl : Int → Int) (V K : Nat) (v : Int) (σ : St) : Prop := ∀ l, 0 ≤ l → l < 40 → σ 79 l = 1 → (gP G l).1 + (gP G l).2 ≤ v ∧ GIL G pl V K σ l
/-- all that is known where a piece begins -/
def GSM (G : GT) (pl : Int → Int) (V K : Nat) (ln : Int → Int) (m n o v l : Int) (now : Int → Int) (σ : St) : Prop := BM m n o V ln σ ∧ (∀ j, l ≤ j → j < 40 → σ 79 j = 0) ∧ INV G pl V ln now σ ∧ GIN G pl V K v σ
def GST (G : GT) (pl : Int → Int) (V K : Nat) (ln : Int → Int) (v l : Int) (now : Int → Int) (σ : St) : Prop := GSM G pl V K ln (σ 87 2 + 1) (100 * (σ 87 2 + 1)) (σ 87 2) v l now σ
section BDA
variable {G : GT} {pl ln : Int → Int} {V S K Ln : Nat} {m m' n n' o o' v v' w l l' k s x y how : Int} {ks ks' : List (Int × Int)} {now : Int → Int} {σ σ' σ1 σ2 : St}
theorem BV_le (h : BV m V σ) (hm : m ≤ m') : BV m' V σ := by
  obtain ⟨h1, h2, h3, h4, h5⟩ := h
  exact ⟨fun x a b => by have := h1 x a b; unfold B99 at *; omega, fun x a b => by have := h2 x a b; unfold B99 at *; omega, fun x a b => by have := h3 x a b; unfold B99 at *; omega, fun x a b => by have := h4 x a b; unfold B99 at *; omega, fun x a b => by have := h5 x a b; unfold B99 at *; omega⟩
theorem BC_le (h : BC n σ) (hn : n ≤ n') : BC n' σ := by
  unfold BC at *
  omega
theorem BM_le (h : BM m n o V ln σ) (hm : m ≤ m') (hn : n ≤ n') (ho : o ≤ o') : BM m' n' o' V ln σ := by
  obtain ⟨h1, h2, h3, h4⟩ := h
  exact ⟨BV_le h1 hm, BC_le h2 hn, by omega, h4⟩
theorem BM_step (h : BM m n o V ln σ) (hs : σ 87 2 < 300) : BM m n o V ln (q_up σ 87 2 (σ 87 2 + 1)) := by
  obtain ⟨h1, h2, h3, h4, h5, h6, h7⟩ := h
  refine ⟨h1, h2, h3, h4, h5, ?_, h7⟩
  show 0 ≤ σ 87 2 + 1 ∧ σ 87 2 + 1 ≤ 300
  omega
theorem FST_step (h : BM m n o V ln σ) (hn : n ≤ 40000) (ho : o ≤ 300) : FST (q_up σ 87 0 2) := by
  obtain ⟨h1, h2, h3, h4, h5, h6, h7⟩ := h
  refine ⟨BC_le h2 hn, ?_, h6⟩
  show 0 ≤ σ 87 3 ∧ σ 87 3 ≤ 300
  omega
theorem BM_mk (hp : PRO G pl V S K Ln) (h : BM m n o V ln σ) : BM m n o V ln (R_mk G v w σ) := by
  obtain ⟨⟨a1, a2, a3⟩, h2, h3, h4, h5, h6, h7⟩ := h
  refine ⟨⟨a1, fun j j0 j1 => ?_, a3⟩, h2, h3, h4, h5, h6, h7⟩
  rw [R_mk_80]
  split
  · have := (hp.1 j j0 j1).1
    exact a1 _ this.1 this.2
  · exact a2 j j0 j1
/-- 79 l -/
theorem BM_fl (h : BM m n o V ln σ) (hy : y = 0 ∨ y = 1) : BM m n o V ln (q_up σ 79 l y) := by
  obtain ⟨h1, h2, h3, h4, h5, h6⟩ := h
  refine ⟨h1, h2, h3, h4, fun j j0 j1 => ?_, h6⟩
  by_cases e : j = l
  · subst e; rw [q_up_eq]; exact hy
  · rw [q_up_ne2 _ _ _ e]; exact h5 j j0 j1
theorem BM_ca (h : BM m n o V ln σ) : BM m (n + 1) o V ln (R_ca σ) := by
  obtain ⟨h1, h2, h3, h4⟩ := h
  refine ⟨h1, ?_, h3, h4⟩
  obtain ⟨c1, c2, c3⟩ := h2
  show (0 ≤ σ 87 4 + 1 ∧ σ 87 4 + 1 ≤ n + 1) ∧ (0 ≤ σ 87 5 ∧ σ 87 5 ≤ n + 1) ∧ (0 ≤ σ 87 6 + 1 ∧ σ 87 6 + 1 ≤ n + 1)
  omega
theorem R_cn_b : 0 ≤ R_cn G pl V how k x σ ∧ R_cn G pl V how k x σ ≤ 2 := by
  unfold R_cn
  repeat' split
  all_goals omega
theorem RFR_refl : RFR v l ks σ σ := ⟨fun _ _ _ => rfl, fun _ _ _ _ => rfl, fun _ _ => rfl, fun _ _ => rfl⟩
theorem RFR_trans (h1 : RFR v l ks σ σ1) (h2 : RFR v l ks σ1 σ2) : RFR v l ks σ σ2 := by
  obtain ⟨a1, a2, a3, a4⟩ := h1
  obtain ⟨b1, b2, b3, b4⟩ := h2
  exact ⟨fun a i h => by rw [b1 a i h, a1 a i h], fun x x0 x1 h => by rw [b2 x x0 x1 h, a2 x x0 x1 h], fun j h => by rw [b3 j h, a3 j h], fun j h => by rw [b4 j h, a4 j h]⟩
theorem RFR_mono (h : RFR v' l' ks' σ σ') (hv : v ≤ v') (hl : l ≤ l') (hk : ∀ x, NTL ks x → NTL ks' x) : RFR v l ks σ σ' := by
  obtain ⟨a1, a2, a3, a4⟩ := h
  exact ⟨a1, fun x x0 x1 h => a2 x x0 x1 (hk x h), fun j h => a3 j (by omega), fun j h => a4 j (by omega)⟩
theorem RFR_87 {i : Int} : RFR v l ks σ (q_up σ 87 i x) := ⟨fun a j h => q_up_ne _ _ _ _ (fun q => h (by subst q; unfold RUC; omega)), fun _ _ _ _ => rfl, fun _ _ => rfl, fun _ _ => rfl⟩
theorem RFR_mk (hv : v ≤ v') : RFR v l ks σ (R_mk G v' w σ) := ⟨fun a j h => R_mk_ne (fun q => h (by subst q; unfold RUC; omega)), fun _ _ _ _ => rfl, fun _ _ => rfl, fun j h => R_mk_lt (by omega)⟩
theorem RFR_79 {i : Int} (hi : l ≤ i) : RFR v l ks σ (q_up σ 79 i x) := ⟨fun a j h => q_up_ne _ _ _ _ (fun q => h (by subst q; unfold RUC; omega)), fun _ _ _ _ => rfl, fun j h => q_up_ne2 _ _ _ (by omega), fun _ _ => rfl⟩
theorem RFR_80 {i : Int} (hi : v ≤ i) : RFR v l ks σ (q_up σ 80 i x) := ⟨fun a j h => q_up_ne _ _ _ _ (fun q => h (by subst q; unfold RUC; omega)), fun _ _ _ _ => rfl, fun _ _ => rfl, fun j h => q_up_ne2 _ _ _ (by omega)⟩
theorem RFR_86 {i : Int} : RFR v l ks σ (q_up σ 86 i x) := ⟨fun a j h => q_up_ne _ _ _ _ (fun q => h (by subst q; unfold RUC; omega)), fun _ _ _ _ => rfl, fun _ _ => rfl, fun _ _ => rfl⟩
theorem RFR_82 {a : Nat} {i : Int} (ha : a = 82 ∨ a = 83 ∨ a = 84) : RFR v l ks σ (q_up σ a i x) := by
  refine ⟨fun b j h => q_up_ne _ _ _ _ (fun q => h (by subst q; unfold RUC; omega)), fun x x0 x1 _ => q_up_ne _ _ _ _ (by omega), fun j h => q_up_ne _ _ _ _ (by omega), fun j h => q_up_ne _ _ _ _ (by omega)⟩
theorem RFR_78 {i : Int} (hi : ∀ x, NTL ks x → ¬ x = i) : RFR v l ks σ (q_up σ 78 i x) := ⟨fun a j h => q_up_ne _ _ _ _ (fun q => h (by subst q; unfold RUC; omega)), fun y _ _ h => q_up_ne2 _ _ _ (hi y h), fun _ _ => rfl, fun _ _ => rfl⟩
theorem RFR_ca : RFR v l ks σ (R_ca σ) := RFR_trans RFR_87 RFR_87
/-- which loop guards, and by what -/
theorem gd_why {root : Int} : ∀ (n : Nat) (l : Int) (p : Int × Int), (p = (-1, -1) ∨ (p.2 = 0 ∧ root < (gP G p.1).1) ∨ (p.2 = 1 ∧ gCnt G p.1 root)) → (gd G root n l p = (-1, -1) ∨ ((gd G root n l p).2 = 0 ∧ root < (gP G (gd G root n l p).1).1) ∨ ((gd G root n l p).2 = 1 ∧ gCnt G (gd G root n l p).1 root)) := by
  intro n
  induction n with
  | zero => intro l p h; exact h
  | succ n ih =>
    intro l p h
    rw [gd]
    by_cases hl : l = -1
    · rw [if_pos hl]; exact h
    · rw [if_neg hl]
      refine ih _ _ ?_
      unfold gd1
      by_cases h1 : root < (gP G l).1
      · rw [if_pos h1]; exact Or.inr (Or.inl ⟨rfl, h1⟩)
      · rw [if_neg h1]
        by_cases h2 : gCnt G l root
        · rw [if_pos h2]; exact Or.inr (Or.inr ⟨rfl, h2⟩)
        · rw [if_neg h2]; exact h
theorem gdr_why (hl : (gdr G pl V k).1 = l) (hn : ¬ l = -1) : ((gdr G pl V k).2 = 0 ∧ (RT G (gC G k).1).1 < (gP G l).1) ∨ ((gdr G pl V k).2 = 1 ∧ gCnt G l (RT G (gC G k).1).1) := by
  unfold gdr at hl ⊢
  split at hl
  · exact absurd hl.symm hn
  · rename_i hs
    rw [if_neg hs]
    rcases gd_why (G := G) (root := (RT G (gC G k).1).1) 5 (gC G k).2.2 (-1, -1) (Or.inl rfl) with h | h | h
    · rw [h] at hl; exact absurd hl.symm hn
    · left; rw [hl] at h; exact h
    · right; rw [hl] at h; exact h
theorem root_b (hp : PRO G pl V S K Ln) (k0 : 0 ≤ k) (k1 : k < K) : 0 ≤ (RT G (gC G k).1).1 ∧ (RT G (gC G k).1).1 ≤ (gC G k).1 ∧ (gC G k).1 < V ∧ -99 * 240 ≤ (RT G (gC G k).1).2 ∧ (RT G (gC G k).1).2 ≤ 99 * 240 := by
  obtain ⟨⟨-, -, -, w4, w5, -⟩, -⟩ := PRO_k hp k0 k1
  have hb := hp.2.1
  have hR := RT_b hp.1 hp.2.1.2.1 ((gC G k).1.toNat + 1) (gC G k).1 (by omega) w4.1 (by omega)
  obtain ⟨h1, h2, h3, h4, -⟩ := hR
  refine ⟨h1, h2, by omega, ?_, ?_⟩
  · have : -99 * 240 ≤ -99 * (gC G k).1 := by omega
    omega
  · omega
theorem gdr_root (hp : PRO G pl V S K Ln) (hl : (gdr G pl V k).1 = l) (hn : 0 ≤ l) (hn2 : l < Ln) : (RT G (gC G k).1).1 < (gP G l).1 + (gP G l).2 := by
  have h := gdr_why hl (by omega)
  obtain ⟨-, -, -, -, w, -⟩ := PRO_l hp hn hn2
  rcases h with h | h
  · have := h.2; omega
  · exact h.2.1.2
theorem gdr_l (hp : PRO G pl V S K Ln) (k0 : 0 ≤ k) (k1 : k < K) (hl : (gdr G pl V k).1 = l) (hn : ¬ l = -1) : 0 ≤ l ∧ l < Ln := by
  rcases gdr_rng hp k0 k1 with h | h
  · rw [h] at hl; exact absurd hl.symm hn
  · omega
theorem GIL_fr (hp : PRO G pl V S K Ln) (l0 : 0 ≤ l) (hv : (gP G l).1 + (gP G l).2 ≤ v) (h : GIL G pl V K σ l) (h80 : ∀ j, 0 ≤ j → j < v → σ' 80 j = σ 80 j) (h85 : ∀ i, σ' 85 i = σ 85 i) : GIL G pl V K σ' l := by
  intro k k0 k1 hk
  have hl := gdr_l hp k0 k1 hk (by omega)
  have hr := gdr_root hp hk hl.1 hl.2
  have hb := root_b hp k0 k1
  have e : R_low G k σ' = R_low G k σ := by unfold R_low; rw [h80 _ hb.1 (by omega)]
  rw [e, h85]
  exact h k k0 k1 hk
theorem GIN_fr (hp : PRO G pl V S K Ln) (h : GIN G pl V K v σ) (hv : v ≤ v') (h79 : ∀ l, 0 ≤ l → l < 40 → σ' 79 l = 1 → σ 79 l = 1) (h80 : ∀ j, 0 ≤ j → j < v → σ' 80 j = σ 80 j) (h85 : ∀ i, σ' 85 i = σ 85 i) : GIN G pl V K v' σ' := by
  intro l l0 l1 hl
  obtain ⟨a1, a2⟩ := h l l0 l1 (h79 l l0 l1 hl)
  exact ⟨by omega, GIL_fr hp l0 a1 a2 h80 h85⟩
/-- the parts of a check that is come to hold, where they aren't asked -/
theorem ck_ok (hp : PRO G pl V S K Ln) (hG : GSM G pl V K ln m n o v l now σ) (k0 : 0 ≤ k) (k1 : k < K) (x0 : 0 ≤ x) (x1 : x ≤ 7) (hlk : (gC G k).1 = now x) (hrow : (gK G k).2.1 ≤ 2) :
    (shD G pl V (-1) k = 1 ∨ (¬ (gdr G pl V k).1 = -1 ∧ σ 79 (gdr G pl V k).1 = 1) → 0 ≤ σ 78 x) ∧ (shU G pl V (-1) k = 1 ∨ (¬ (gdr G pl V k).1 = -1 ∧ σ 79 (gdr G pl V k).1 = 1) → σ 78 x < σ 85 (gK G k).2.1) := by
  obtain ⟨hB, hF, hI, hGI⟩ := hG
  obtain ⟨⟨-, w2, -⟩, -⟩ := PRO_k hp k0 k1
  obtain ⟨i1, i2, i3⟩ := hI x x0 x1
  rw [← hlk] at i1 i2 i3
  have e85 := (hB.2.2.2.1.1 _ w2.1 hrow).1
  have low : R_low G k σ = σ 78 x := i3
  have hbd := hp.2.1
  have gi : ¬ (gdr G pl V k).1 = -1 ∧ σ 79 (gdr G pl V k).1 = 1 → (shD G pl V (-1) k = 0 → 0 ≤ R_low G k σ) ∧ (shU G pl V (-1) k = 0 → R_low G k σ < σ 85 (gK G k).2.1) := by
    intro h
    have hl := gdr_l hp k0 k1 rfl h.1
    exact (hGI _ hl.1 (by omega) h.2).2 k k0 k1 rfl
  rw [low] at gi
  refine ⟨fun h => ?_, fun h => ?_⟩
  · rcases shD_01 (G := G) (pl := pl) (V := V) (wo := -1) (k := k) with q | q
    · rcases h with h | h
      · omega
      · exact (gi h).1 q
    · exact SB_D i1 q
  · rcases shU_01 (G := G) (pl := pl) (V := V) (wo := -1) (k := k) with q | q
    · rcases h with h | h
      · omega
      · exact (gi h).2 q
    · rw [e85]; exact SB_U hp k0 k1 i1 q
end BDA
