/-! what is read is as it may be -/
section VLD
variable {f : Int → Int} {n p q : Int} {pl : Int → Int}
theorem p_b_i {α β : Type} {x : PX α} {g : α → Int → PX β} {y : β} {q : Int} (h : p_b x g = .inr (y, q)) : ∃ a p, x = .inr (a, p) ∧ g a p = .inr (y, q) := by
  rcases x with x | ⟨a, p⟩
  · cases h
  · exact ⟨a, p, rfl, h⟩
theorem nx_0 (hp : 0 ≤ p) : 0 ≤ nx f n p := by
  have h2 := sk_ge (f := f) (n := n) (p := te f n p)
  have : p ≤ te f n p := by
    by_cases h : p < n
    · have := te_gt (f := f) h; omega
    · rw [(tk_past (by omega)).2]; exact Int.le_refl _
  unfold nx
  omega
theorem p_sg_i {c : Int} {u : Unit} (hp : 0 ≤ p) (h : p_sg f n c p = .inr (u, q)) : 0 ≤ q := by
  unfold p_sg at h
  split at h
  · cases h; exact nx_0 hp
  · cases h
theorem p_va_i {v : Int} (hp : 0 ≤ p) (h : p_va f n p = .inr (v, q)) : (0 ≤ v ∧ v ≤ 7) ∧ 0 ≤ q := by
  unfold p_va at h
  split at h
  · cases h; exact ⟨by omega, nx_0 hp⟩
  · cases h
theorem p_ro_i {v : Int} (hp : 0 ≤ p) (h : p_ro f n pl p = .inr (v, q)) : (0 ≤ v ∧ v ≤ 2 ∧ ¬ pl v = -1) ∧ 0 ≤ q := by
  unfold p_ro at h
  split at h
  · rename_i hc
    cases h; exact ⟨⟨by omega, by omega, hc.2⟩, nx_0 hp⟩
  · cases h
theorem p_nu_i {v most : Int} (hf : t_by f n) (hp : 0 ≤ p) (h : p_nu f n most p = .inr (v, q)) : (0 ≤ v ∧ v ≤ 99 ∧ v ≤ most) ∧ 0 ≤ q := by
  unfold p_nu at h
  split at h
  · rename_i hc
    cases h
    have hn := (tk_num hf hp).mp hc.1
    have ht := tw_range (n := n) hn.1 hn.2.1
    exact ⟨⟨by omega, by omega, hc.2⟩, nx_0 hp⟩
  · cases h
theorem p_el_i {e : Int × Int} (hp : 0 ≤ p) (h : p_el f n pl p = .inr (e, q)) : (0 ≤ e.1 ∧ e.1 ≤ 2 ∧ ¬ pl e.1 = -1 ∧ 0 ≤ e.2 ∧ e.2 ≤ 7) ∧ 0 ≤ q := by
  unfold p_el at h
  obtain ⟨r, p1, h1, h⟩ := p_b_i h
  obtain ⟨a1, a2⟩ := p_ro_i hp h1
  obtain ⟨u, p2, h2, h⟩ := p_b_i h
  have b2 := p_sg_i a2 h2
  obtain ⟨v, p3, h3, h⟩ := p_b_i h
  obtain ⟨c1, c2⟩ := p_va_i b2 h3
  obtain ⟨u', p4, h4, h⟩ := p_b_i h
  have d2 := p_sg_i c2 h4
  cases h
  exact ⟨⟨a1.1, a1.2.1, a1.2.2, c1.1, c1.2⟩, d2⟩
def VALv (pl : Int → Int) (w : (Int × Int × Int) × (Int × Int × Int)) : Prop := (w.1.1 = 1 ∧ w.1.2.1 = -1 ∧ -99 ≤ w.1.2.2 ∧ w.1.2.2 ≤ 99 ∧ w.2 = p_no) ∨ (w.1.1 = 2 ∧ 0 ≤ w.1.2.1 ∧ w.1.2.1 ≤ 2 ∧ ¬ pl w.1.2.1 = -1 ∧ w.1.2.2 = 0 ∧ w.2 = p_no) ∨ (w.1.1 = 3 ∧ 0 ≤ w.1.2.1 ∧ w.1.2.1 ≤ 7 ∧ -99 ≤ w.1.2.2 ∧ w.1.2.2 ≤ 99 ∧ w.2 = p_no) ∨ (w.1.1 = 4 ∧ w.1.2.1 = -1 ∧ w.1.2.2 = 0 ∧ w.2.1 = 1 ∧ 0 ≤ w.2.2.1 ∧ w.2.2.1 ≤ 2 ∧ ¬ pl w.2.2.1 = -1 ∧ 0 ≤ w.2.2.2 ∧ w.2.2.2 ≤ 7) ∨ (w.1.1 = 5 ∧ 0 ≤ w.1.2.1 ∧ w.1.2.1 ≤ 2 ∧ w.1.2.2 = 0 ∧ w.2 = p_no)
theorem p_vl_i {w : (Int × Int × Int) × (Int × Int × Int)} (hf : t_by f n) (hp : 0 ≤ p) (h : p_vl f n pl p = .inr (w, q)) : VALv pl w ∧ 0 ≤ q := by
  unfold p_vl at h
  split at h
  · obtain ⟨v, p1, h1, h⟩ := p_b_i h
    obtain ⟨a1, a2⟩ := p_nu_i hf hp h1
    cases h
    exact ⟨Or.inl ⟨rfl, rfl, by simp only; omega, by simp only; omega, rfl⟩, a2⟩
  split at h
  · obtain ⟨v, p1, h1, h⟩ := p_b_i h
    obtain ⟨a1, a2⟩ := p_nu_i hf (nx_0 hp) h1
    cases h
    exact ⟨Or.inl ⟨rfl, rfl, by simp only; omega, by simp only; omega, rfl⟩, a2⟩
  split at h
  · obtain ⟨v, p1, h1, h⟩ := p_b_i h
    obtain ⟨a1, a2⟩ := p_ro_i (nx_0 hp) h1
    cases h
    exact ⟨Or.inr (Or.inl ⟨rfl, a1.1, a1.2.1, a1.2.2, rfl, rfl⟩), a2⟩
  split at h
  · obtain ⟨v, p1, h1, h⟩ := p_b_i h
    obtain ⟨a1, a2⟩ := p_nu_i hf (nx_0 hp) h1
    cases h
    exact ⟨Or.inr (Or.inr (Or.inr (Or.inr ⟨rfl, a1.1, a1.2.2, rfl, rfl⟩))), a2⟩
  split at h
  · obtain ⟨v, p1, h1, h⟩ := p_b_i h
    obtain ⟨a1, a2⟩ := p_el_i hp h1
    cases h
    exact ⟨Or.inr (Or.inr (Or.inr (Or.inl ⟨rfl, rfl, rfl, rfl, a1.1, a1.2.1, a1.2.2.1, a1.2.2.2.1, a1.2.2.2.2⟩))), a2⟩
  · obtain ⟨v, p1, h1, h⟩ := p_b_i h
    obtain ⟨a1, a2⟩ := p_va_i hp h1
    split at h
    · obtain ⟨v', p2, h2, h⟩ := p_b_i h
      obtain ⟨b1, b2⟩ := p_nu_i hf (nx_0 a2) h2
      cases h
      exact ⟨Or.inr (Or.inr (Or.inl ⟨rfl, a1.1, a1.2, by simp only; omega, by simp only; omega, rfl⟩)), b2⟩
    split at h
    · obtain ⟨v', p2, h2, h⟩ := p_b_i h
      obtain ⟨b1, b2⟩ := p_nu_i hf (nx_0 a2) h2
      cases h
      exact ⟨Or.inr (Or.inr (Or.inl ⟨rfl, a1.1, a1.2, by simp only; omega, by simp only; omega, rfl⟩)), b2⟩
    · cases h
      exact ⟨Or.inr (Or.inr (Or.inl ⟨rfl, a1.1, a1.2, by simp only; omega, by simp only; omega, rfl⟩)), a2⟩
theorem p_out_i {x : SB} (hp : 0 ≤ p) (h : p_out f n p = .inr (x, q)) : VALb pl x ∧ 0 ≤ q := by
  unfold p_out at h
  obtain ⟨v, p1, h1, h⟩ := p_b_i h
  obtain ⟨a1, a2⟩ := p_va_i (nx_0 hp) h1
  obtain ⟨u, p2, h2, h⟩ := p_b_i h
  have b2 := p_sg_i a2 h2
  cases h
  exact ⟨⟨a1, Or.inr (Or.inr ⟨rfl, rfl, rfl, rfl, rfl⟩)⟩, b2⟩
theorem p_sto_i {x : SB} (hp : 0 ≤ p) (h : p_sto f n pl p = .inr (x, q)) : VALb pl x ∧ 0 ≤ q := by
  unfold p_sto at h
  obtain ⟨e, p1, h1, h⟩ := p_b_i h
  obtain ⟨a1, a2⟩ := p_el_i hp h1
  obtain ⟨u, p2, h2, h⟩ := p_b_i h
  have b2 := p_sg_i a2 h2
  obtain ⟨v, p3, h3, h⟩ := p_b_i h
  obtain ⟨c1, c2⟩ := p_va_i b2 h3
  obtain ⟨u', p4, h4, h⟩ := p_b_i h
  have d2 := p_sg_i c2 h4
  cases h
  exact ⟨⟨⟨a1.2.2.2.1, a1.2.2.2.2⟩, Or.inr (Or.inl ⟨rfl, rfl, rfl, c1.1, c1.2, rfl, rfl, a1.1, a1.2.1, a1.2.2.1⟩)⟩, d2⟩
theorem p_asg_i {x : SB} (hf : t_by f n) (hp : 0 ≤ p) (h : p_asg f n pl p = .inr (x, q)) : VALb pl x ∧ 0 ≤ q := by
  unfold p_asg at h
  obtain ⟨v, p1, h1, h⟩ := p_b_i h
  obtain ⟨a1, a2⟩ := p_va_i hp h1
  obtain ⟨u, p2, h2, h⟩ := p_b_i h
  have b2 := p_sg_i a2 h2
  obtain ⟨w, p3, h3, h⟩ := p_b_i h
  obtain ⟨c1, c2⟩ := p_vl_i hf b2 h3
  obtain ⟨u', p4, h4, h⟩ := p_b_i h
  have d2 := p_sg_i c2 h4
  cases h
  exact ⟨⟨a1, Or.inl ⟨rfl, c1⟩⟩, d2⟩
theorem p_sd_i {t : Int × Int} (hf : t_by f n) (hp : 0 ≤ p) (h : p_sd f n pl p = .inr (t, q)) : VALs pl t ∧ 0 ≤ q := by
  unfold p_sd at h
  split at h
  · obtain ⟨v, p1, h1, h⟩ := p_b_i h
    obtain ⟨a1, a2⟩ := p_nu_i hf hp h1
    cases h
    exact ⟨Or.inl ⟨rfl, a1.1, a1.2.1⟩, a2⟩
  split at h
  · obtain ⟨v, p1, h1, h⟩ := p_b_i h
    obtain ⟨a1, a2⟩ := p_ro_i (nx_0 hp) h1
    cases h
    exact ⟨Or.inr (Or.inl ⟨rfl, a1⟩), a2⟩
  · obtain ⟨v, p1, h1, h⟩ := p_b_i h
    obtain ⟨a1, a2⟩ := p_va_i hp h1
    cases h
    exact ⟨Or.inr (Or.inr ⟨rfl, a1⟩), a2⟩
theorem p_te_i {t : TT} (hf : t_by f n) (hp : 0 ≤ p) (h : p_te f n pl p = .inr (t, q)) : VALt pl t ∧ 0 ≤ q := by
  unfold p_te at h
  obtain ⟨l, p1, h1, h⟩ := p_b_i h
  obtain ⟨a1, a2⟩ := p_sd_i hf hp h1
  obtain ⟨b, p2, h2, h⟩ := p_b_i h
  have b2 : (b = 0 ∨ b = 1 ∨ b = 2) ∧ 0 ≤ p2 := by
    unfold p_re at h2
    split at h2
    · cases h2; exact ⟨Or.inl rfl, nx_0 a2⟩
    split at h2
    · cases h2; exact ⟨Or.inr (Or.inl rfl), nx_0 a2⟩
    split at h2
    · cases h2; exact ⟨Or.inr (Or.inr rfl), nx_0 a2⟩
    · cases h2
  obtain ⟨r, p3, h3, h⟩ := p_b_i h
  obtain ⟨c1, c2⟩ := p_sd_i hf b2.2 h3
  cases h
  exact ⟨⟨b2.1, a1, c1⟩, c2⟩
theorem p_ls_i {α β : Type} {sb : SB → α} {cp : Bool → TT → β → β → α} {e0 : β} {blk : Int → Int → PX (β × Int)} {okA : α → Prop} {okB : β → Prop} (hf : t_by f n) (hsb : ∀ x, VALb pl x → okA (sb x)) (hcp : (∃ c q A, blk c q = .inr A) → ∀ w t A B, VALt pl t → okB A → okB B → okA (cp w t A B)) (he : okB e0) (hb : ∀ c p A q, 0 ≤ p → blk c p = .inr (A, q) → okB A.1 ∧ 0 ≤ q) :
    ∀ (m : Nat) (cnt p : Int) (A : List α × Int) (q : Int), 0 ≤ p → p_ls f n pl sb cp e0 blk m cnt p = .inr (A, q) → VALl okA A.1 ∧ 0 ≤ q := by
  intro m
  induction m with
  | zero => intro cnt p A q hp h; unfold p_ls at h; cases h
  | succ m ih =>
    intro cnt p A q hp h
    unfold p_ls at h
    split at h
    · cases h; exact ⟨trivial, hp⟩
    split at h
    · cases h
    obtain ⟨x, p1, h1, h⟩ := p_b_i h
    have k1 : okA x.1 ∧ 0 ≤ p1 := by
      unfold p_s1 at h1
      split at h1
      · obtain ⟨y, p2, h2, h1⟩ := p_b_i h1
        obtain ⟨a1, a2⟩ := p_out_i (pl := pl) hp h2
        cases h1
        exact ⟨hsb _ a1, a2⟩
      split at h1
      · unfold p_if at h1
        obtain ⟨t, p2, h2, h1⟩ := p_b_i h1
        obtain ⟨a1, a2⟩ := p_te_i hf (nx_0 hp) h2
        obtain ⟨A1, p3, h3, h1⟩ := p_b_i h1
        obtain ⟨b1, b2⟩ := hb _ _ _ _ a2 h3
        split at h1
        · obtain ⟨B1, p4, h4, h1⟩ := p_b_i h1
          obtain ⟨c1, c2⟩ := hb _ _ _ _ (nx_0 b2) h4
          cases h1
          exact ⟨hcp ⟨_, _, _, h3⟩ _ _ _ _ a1 b1 c1, c2⟩
        · cases h1
          exact ⟨hcp ⟨_, _, _, h3⟩ _ _ _ _ a1 b1 he, b2⟩
      split at h1
      · unfold p_wh at h1
        obtain ⟨t, p2, h2, h1⟩ := p_b_i h1
        obtain ⟨a1, a2⟩ := p_te_i hf (nx_0 hp) h2
        obtain ⟨A1, p3, h3, h1⟩ := p_b_i h1
        obtain ⟨b1, b2⟩ := hb _ _ _ _ a2 h3
        cases h1
        exact ⟨hcp ⟨_, _, _, h3⟩ _ _ _ _ a1 b1 he, b2⟩
      split at h1
      · obtain ⟨y, p2, h2, h1⟩ := p_b_i h1
        obtain ⟨a1, a2⟩ := p_sto_i hp h2
        cases h1
        exact ⟨hsb _ a1, a2⟩
      · obtain ⟨y, p2, h2, h1⟩ := p_b_i h1
        obtain ⟨a1, a2⟩ := p_asg_i hf hp h2
        cases h1
        exact ⟨hsb _ a1, a2⟩
    obtain ⟨L, p2, h2, h⟩ := p_b_i h
    obtain ⟨l1, l2⟩ := ih _ _ _ _ k1.2 h2
    cases h
    exact ⟨⟨k1.1, l1⟩, l2⟩
theorem VALS_0 (x : SB) : VALS pl 0 x ↔ VALb pl x := by
  unfold VALS
  exact Iff.rfl
theorem VALS_b (d : Nat) (x : SB) : VALS pl (d + 1) (Sum.inl x) ↔ VALb pl x := by
  unfold VALS
  exact Iff.rfl
theorem VALS_c (d : Nat) (w : Bool) (t : TT) (A B : List (ST d)) : VALS pl (d + 1) (Sum.inr ((w, t), A, B)) ↔ VALt pl t ∧ VALl (VALS pl d) A ∧ VALl (VALS pl d) B := by
  rw [VALS]
theorem p_L_i (hf : t_by f n) : ∀ (d : Nat) (cnt p : Int) (A : List (ST d) × Int) (q : Int), 0 ≤ p → p_L f n pl d cnt p = .inr (A, q) → VALl (VALS pl d) A.1 ∧ 0 ≤ q := by
  intro d
  induction d with
  | zero =>
    intro cnt p A q hp h
    unfold p_L at h
    exact p_ls_i (okA := VALS pl 0) (okB := fun _ => True) hf (fun x hx => (VALS_0 x).mpr hx) (fun ⟨c, q, A, h⟩ => by cases h) trivial (fun c p A q _ h => by cases h) 41 cnt p A q hp h
  | succ d ih =>
    intro cnt p A q hp h
    unfold p_L at h
    refine p_ls_i (e0 := ([] : List (ST d))) (okA := VALS pl (d + 1)) (okB := VALl (VALS pl d)) hf (fun x hx => (VALS_b d x).mpr hx) (fun _ w t A B h1 h2 h3 => (VALS_c d w t A B).mpr ⟨h1, h2, h3⟩) trivial (fun c p A q hp h => ?_) 41 cnt p A q hp h
    unfold p_bk at h
    split at h
    · obtain ⟨L, p2, h2, h⟩ := p_b_i h
      obtain ⟨a1, a2⟩ := ih _ _ _ _ (nx_0 hp) h2
      obtain ⟨u, p3, h3, h⟩ := p_b_i h
      have b2 := p_sg_i a2 h3
      cases h
      exact ⟨a1, b2⟩
    · cases h
theorem p_rs_i : ∀ (m : Nat) (pl : Int → Int) (p : Int) (pl' : Int → Int) (q : Int), 0 ≤ p → p_rs f n m pl p = .inr (pl', q) → 0 ≤ q := by
  intro m
  induction m with
  | zero => intro pl p pl' q hp h; unfold p_rs at h; cases h
  | succ m ih =>
    intro pl p pl' q hp h
    unfold p_rs at h
    split at h
    · split at h
      · obtain ⟨v, p2, h2, h⟩ := p_b_i h
        have a2 : 0 ≤ p2 := by
          unfold p_nu at h2
          split at h2
          · cases h2; exact nx_0 (nx_0 (nx_0 hp))
          · cases h2
        obtain ⟨u, p3, h3, h⟩ := p_b_i h
        exact ih _ _ _ _ (p_sg_i a2 h3) h
      · cases h
    · cases h; exact hp
theorem p_P_i {L : List (ST 5)} {cnt : Int} (hf : t_by f n) (h : p_P f n = .inr ((pl, L, cnt), q)) : VALl (VALS pl 5) L := by
  unfold p_P at h
  obtain ⟨pl', p1, h1, h⟩ := p_b_i h
  have h0 : 0 ≤ sk f n 0 := sk_ge
  have a1 := p_rs_i _ _ _ _ _ h0 h1
  obtain ⟨A, p2, h2, h⟩ := p_b_i h
  obtain ⟨b1, b2⟩ := p_L_i hf 5 _ _ _ _ a1 h2
  split at h
  · cases h; exact b1
  · cases h
end VLD
