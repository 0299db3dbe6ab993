/-! what is read depends on the text's own bytes alone -/
def AGR (f g : Int → Int) (n : Int) : Prop := ∀ i, 0 ≤ i → i < n → f i = g i
section TXE
variable {f g : Int → Int} {n p : Int} {pl : Int → Int} {P : Int → Bool}
theorem x_run (h : AGR f g n) : ∀ (k : Nat) (p : Int), 0 ≤ p → (n - p).toNat = k → t_run P f n p = t_run P g n p := by
  intro k
  induction k with
  | zero =>
    intro p p0 hk
    rw [t_run_fix (f := f) (by omega), t_run_fix (f := g) (by omega)]
  | succ k ih =>
    intro p p0 hk
    rw [t_run_eq (f := f), t_run_eq (f := g), h p p0 (by omega), ih (p + 1) (by omega) (by omega)]
theorem x_rn (h : AGR f g n) (p0 : 0 ≤ p) : t_run P f n p = t_run P g n p := x_run h _ p p0 rfl
theorem x_tk (h : AGR f g n) (p0 : 0 ≤ p) : tk f n p = tk g n p := by
  unfold tk
  by_cases hn : n ≤ p
  · rw [if_pos hn, if_pos hn]
  · rw [if_neg hn, if_neg hn, h p p0 (by omega), x_rn h p0, x_rn h p0]
    have hr := t_run_le (P := t_let) (f := g) (n := n) (p := p) (by omega)
    have e : t_wk f p (t_run t_let g n p - p) = t_wk g p (t_run t_let g n p - p) := by
      generalize t_run t_let g n p = q at *
      unfold t_wk
      have hw : ∀ (m : Int) (w : List Nat), (w.length : Int) = m → ((q - p = m ∧ t_w f p w = true) ↔ (q - p = m ∧ t_w g p w = true)) := by
        intro m w hl
        constructor
        · rintro ⟨a, b⟩
          rw [t_w_eq w p (fun k k0 k1 => h (p + k) (by omega) (by omega))] at b
          exact ⟨a, b⟩
        · rintro ⟨a, b⟩
          rw [← t_w_eq w p (fun k k0 k1 => h (p + k) (by omega) (by omega))] at b
          exact ⟨a, b⟩
      rw [h p p0 (by omega)]
      simp only [hw 5 [97, 114, 114, 97, 121] rfl, hw 3 [111, 117, 116] rfl, hw 2 [105, 102] rfl, hw 4 [101, 108, 115, 101] rfl, hw 5 [119, 104, 105, 108, 101] rfl, hw 2 [105, 110] rfl]
    rw [e]
    have e2 : (g p = 60 ∧ p + 1 < n ∧ f (p + 1) = 61) ↔ (g p = 60 ∧ p + 1 < n ∧ g (p + 1) = 61) := by
      constructor
      · rintro ⟨a, b, c⟩; exact ⟨a, b, by rw [← h (p + 1) (by omega) b]; exact c⟩
      · rintro ⟨a, b, c⟩; exact ⟨a, b, by rw [h (p + 1) (by omega) b]; exact c⟩
    simp only [e2]
theorem x_te (h : AGR f g n) (p0 : 0 ≤ p) : te f n p = te g n p := by
  unfold te
  by_cases hn : n ≤ p
  · rw [if_pos hn, if_pos hn]
  · rw [if_neg hn, if_neg hn, h p p0 (by omega), x_rn h p0, x_rn h p0]
    have e2 : (g p = 60 ∧ p + 1 < n ∧ f (p + 1) = 61) ↔ (g p = 60 ∧ p + 1 < n ∧ g (p + 1) = 61) := by
      constructor
      · rintro ⟨a, b, c⟩; exact ⟨a, b, by rw [← h (p + 1) (by omega) b]; exact c⟩
      · rintro ⟨a, b, c⟩; exact ⟨a, b, by rw [h (p + 1) (by omega) b]; exact c⟩
    simp only [e2]
theorem te_nn (p0 : 0 ≤ p) : 0 ≤ te g n p := by
  unfold te
  have a := t_run_ge (P := t_let) (f := g) (n := n) (p := p)
  have b := t_run_ge (P := t_dg) (f := g) (n := n) (p := p)
  split
  · exact p0
  · split
    · omega
    · split
      · omega
      · split <;> omega
theorem x_nx (h : AGR f g n) (p0 : 0 ≤ p) : nx f n p = nx g n p := by
  unfold nx sk
  rw [x_te h p0, x_rn h (te_nn p0)]
theorem p_b_c {α β : Type} {x x' : PX α} {k k' : α → Int → PX β} (hx : x = x') (hk : ∀ a q, x' = .inr (a, q) → k a q = k' a q) : p_b x k = p_b x' k' := by
  subst hx
  cases x with
  | inl q => rfl
  | inr a => exact hk a.1 a.2 rfl
theorem x_sg (h : AGR f g n) (p0 : 0 ≤ p) (c : Int) : p_sg f n c p = p_sg g n c p := by unfold p_sg; rw [x_tk h p0, x_nx h p0]
theorem x_va (h : AGR f g n) (p0 : 0 ≤ p) : p_va f n p = p_va g n p := by unfold p_va; rw [x_tk h p0, x_nx h p0]
theorem x_ro (h : AGR f g n) (p0 : 0 ≤ p) : p_ro f n pl p = p_ro g n pl p := by unfold p_ro; rw [x_tk h p0, x_nx h p0]
theorem x_nu (h : AGR f g n) (p0 : 0 ≤ p) (most : Int) : p_nu f n most p = p_nu g n most p := by
  unfold p_nu
  rw [x_tk h p0, x_nx h p0]
  by_cases hn : n ≤ p
  · have e : tk g n p = -1 := by unfold tk; rw [if_pos hn]
    rw [e, if_neg (fun q => absurd q.1 (by decide)), if_neg (fun q => absurd q.1 (by decide))]
  · have e : tw f n p = tw g n p := by
      unfold tw
      rw [x_rn h p0, h p p0 (by omega)]
      by_cases q : t_run t_dg g n p - p = 2
      · have hr := t_run_le (P := t_dg) (f := g) (n := n) (p := p) (by omega)
        rw [if_pos q, if_pos q, h (p + 1) (by omega) (by omega)]
      · rw [if_neg q, if_neg q]
    rw [e]
theorem x_el (h : AGR f g n) (p0 : 0 ≤ p) : p_el f n pl p = p_el g n pl p := by
  unfold p_el
  refine p_b_c (x_ro h p0) (fun r q1 e1 => ?_)
  have h1 := (p_ro_i p0 e1).2
  refine p_b_c (x_sg h h1 _) (fun _ q2 e2 => ?_)
  have h2 := p_sg_i h1 e2
  refine p_b_c (x_va h h2) (fun v q3 e3 => ?_)
  have h3 := (p_va_i h2 e3).2
  exact p_b_c (x_sg h h3 _) (fun _ q4 e4 => rfl)
theorem x_vl (h : AGR f g n) (hg : t_by g n) (p0 : 0 ≤ p) : p_vl f n pl p = p_vl g n pl p := by
  unfold p_vl
  have hx := nx_0 (f := g) (n := n) p0
  rw [x_tk h p0, x_nx h p0, x_nu h p0, x_nu h hx, x_ro h hx, x_nu h hx, x_el h p0, x_va h p0]
  split
  · rfl
  · split
    · rfl
    · split
      · rfl
      · split
        · rfl
        · split
          · rfl
          · refine p_b_c rfl (fun v q e => ?_)
            have h1 := (p_va_i p0 e).2
            rw [x_tk h h1, x_nx h h1, x_nu h (nx_0 h1)]
theorem x_sd (h : AGR f g n) (p0 : 0 ≤ p) : p_sd f n pl p = p_sd g n pl p := by
  unfold p_sd
  have hx := nx_0 (f := g) (n := n) p0
  rw [x_tk h p0, x_nx h p0, x_nu h p0, x_ro h hx, x_va h p0]
theorem x_re (h : AGR f g n) (p0 : 0 ≤ p) : p_re f n p = p_re g n p := by unfold p_re; rw [x_tk h p0, x_nx h p0]
theorem p_re_i {v q : Int} (p0 : 0 ≤ p) (h : p_re g n p = .inr (v, q)) : 0 ≤ q := by
  have hx := nx_0 (f := g) (n := n) p0
  unfold p_re at h
  repeat' split at h
  all_goals first | cases h; exact hx | cases h
theorem x_tt (h : AGR f g n) (hg : t_by g n) (p0 : 0 ≤ p) : p_te f n pl p = p_te g n pl p := by
  unfold p_te
  refine p_b_c (x_sd h p0) (fun l q1 e1 => ?_)
  have h1 := (p_sd_i hg p0 e1).2
  refine p_b_c (x_re h h1) (fun b q2 e2 => ?_)
  have h2 := p_re_i h1 e2
  exact p_b_c (x_sd h h2) (fun _ q3 e3 => rfl)
theorem x_out (h : AGR f g n) (p0 : 0 ≤ p) : p_out f n p = p_out g n p := by
  unfold p_out
  have hx := nx_0 (f := g) (n := n) p0
  rw [x_nx h p0]
  refine p_b_c (x_va h hx) (fun v q1 e1 => ?_)
  have h1 := (p_va_i hx e1).2
  exact p_b_c (x_sg h h1 _) (fun _ q2 e2 => rfl)
theorem x_sto (h : AGR f g n) (p0 : 0 ≤ p) : p_sto f n pl p = p_sto g n pl p := by
  unfold p_sto
  refine p_b_c (x_el h p0) (fun r q1 e1 => ?_)
  have h1 := (p_el_i p0 e1).2
  refine p_b_c (x_sg h h1 _) (fun _ q2 e2 => ?_)
  have h2 := p_sg_i h1 e2
  refine p_b_c (x_va h h2) (fun v q3 e3 => ?_)
  have h3 := (p_va_i h2 e3).2
  exact p_b_c (x_sg h h3 _) (fun _ q4 e4 => rfl)
theorem x_asg (h : AGR f g n) (hg : t_by g n) (p0 : 0 ≤ p) : p_asg f n pl p = p_asg g n pl p := by
  unfold p_asg
  refine p_b_c (x_va h p0) (fun r q1 e1 => ?_)
  have h1 := (p_va_i p0 e1).2
  refine p_b_c (x_sg h h1 _) (fun _ q2 e2 => ?_)
  have h2 := p_sg_i h1 e2
  refine p_b_c (x_vl h hg h2) (fun v q3 e3 => ?_)
  have h3 := (p_vl_i hg h2 e3).2
  exact p_b_c (x_sg h h3 _) (fun _ q4 e4 => rfl)
section TXF
variable {α β : Type} {sb : SB → α} {cp : Bool → TT → β → β → α} {e0 : β} {blk blk' : Int → Int → PX (β × Int)}
theorem x_s1 (h : AGR f g n) (hg : t_by g n) (p0 : 0 ≤ p) (hb : ∀ c p, 0 ≤ p → blk c p = blk' c p) (hb2 : ∀ c p A q, 0 ≤ p → blk' c p = .inr (A, q) → 0 ≤ q) (cnt : Int) : p_s1 f n pl sb cp e0 blk cnt p = p_s1 g n pl sb cp e0 blk' cnt p := by
  unfold p_s1
  have hx := nx_0 (f := g) (n := n) p0
  have hif : p_if f n pl cp e0 blk cnt p = p_if g n pl cp e0 blk' cnt p := by
    unfold p_if
    rw [x_nx h p0]
    refine p_b_c (x_tt h hg hx) (fun t q1 e1 => ?_)
    have h1 := (p_te_i hg hx e1).2
    refine p_b_c (hb _ _ h1) (fun A q2 e2 => ?_)
    have h2 := hb2 _ _ _ _ h1 e2
    rw [x_tk h h2, x_nx h h2, hb _ _ (nx_0 h2)]
  have hwh : p_wh f n pl cp e0 blk cnt p = p_wh g n pl cp e0 blk' cnt p := by
    unfold p_wh
    rw [x_nx h p0]
    refine p_b_c (x_tt h hg hx) (fun t q1 e1 => ?_)
    have h1 := (p_te_i hg hx e1).2
    exact p_b_c (hb _ _ h1) (fun A q2 e2 => rfl)
  rw [x_tk h p0, x_out h p0, x_sto h p0, x_asg h hg p0, hif, hwh]
theorem s1_0 (hg : t_by g n) (p0 : 0 ≤ p) (hb2 : ∀ c p A q, 0 ≤ p → blk' c p = .inr (A, q) → 0 ≤ q) {cnt q : Int} {A : α × Int} (e : p_s1 g n pl sb cp e0 blk' cnt p = .inr (A, q)) : 0 ≤ q := by
  have hx := nx_0 (f := g) (n := n) p0
  unfold p_s1 at e
  split at e
  · obtain ⟨a, q1, e1, e2⟩ := p_b_i e
    have := (p_out_i (pl := pl) p0 e1).2
    cases e2; exact this
  · split at e
    · unfold p_if at e
      obtain ⟨a, q1, e1, e2⟩ := p_b_i e
      have h1 := (p_te_i hg hx e1).2
      obtain ⟨A1, q2, e3, e4⟩ := p_b_i e2
      have h2 := hb2 _ _ _ _ h1 e3
      split at e4
      · obtain ⟨B1, q3, e5, e6⟩ := p_b_i e4
        have h3 := hb2 _ _ _ _ (nx_0 h2) e5
        cases e6; exact h3
      · cases e4; exact h2
    · split at e
      · unfold p_wh at e
        obtain ⟨a, q1, e1, e2⟩ := p_b_i e
        have h1 := (p_te_i hg hx e1).2
        obtain ⟨A1, q2, e3, e4⟩ := p_b_i e2
        have h2 := hb2 _ _ _ _ h1 e3
        cases e4; exact h2
      · split at e
        · obtain ⟨a, q1, e1, e2⟩ := p_b_i e
          have := (p_sto_i p0 e1).2
          cases e2; exact this
        · obtain ⟨a, q1, e1, e2⟩ := p_b_i e
          have := (p_asg_i hg p0 e1).2
          cases e2; exact this
theorem x_ls (h : AGR f g n) (hg : t_by g n) (hb : ∀ c p, 0 ≤ p → blk c p = blk' c p) (hb2 : ∀ c p A q, 0 ≤ p → blk' c p = .inr (A, q) → 0 ≤ q) : ∀ (m : Nat) (cnt p : Int), 0 ≤ p → p_ls f n pl sb cp e0 blk m cnt p = p_ls g n pl sb cp e0 blk' m cnt p := by
  intro m
  induction m with
  | zero => intro cnt p p0; rfl
  | succ m ih =>
    intro cnt p p0
    rw [p_ls, p_ls, x_tk h p0]
    split
    · rfl
    · split
      · rfl
      · refine p_b_c (x_s1 h hg p0 hb hb2 cnt) (fun x q e => ?_)
        have h1 := s1_0 hg p0 hb2 e
        rw [ih _ _ h1]
end TXF
theorem x_bk {γ : Type} {k k' : Int → Int → PX (γ × Int)} (h : AGR f g n) (hb : ∀ c p, 0 ≤ p → k c p = k' c p) (hb2 : ∀ c p A q, 0 ≤ p → k' c p = .inr (A, q) → 0 ≤ q) (cnt p : Int) (p0 : 0 ≤ p) : p_bk f n k cnt p = p_bk g n k' cnt p := by
  unfold p_bk
  rw [x_tk h p0, x_nx h p0]
  split
  · have hx := nx_0 (f := g) (n := n) p0
    refine p_b_c (hb _ _ hx) (fun A q e => ?_)
    have h1 := hb2 _ _ _ _ hx e
    rw [x_sg h h1]
  · rfl
theorem x_L (h : AGR f g n) (hg : t_by g n) : ∀ (d : Nat) (cnt p : Int), 0 ≤ p → p_L f n pl d cnt p = p_L g n pl d cnt p := by
  intro d
  induction d with
  | zero => intro cnt p p0; exact x_ls h hg (fun _ _ _ => rfl) (fun c p A q _ e => by cases e) 41 cnt p p0
  | succ d ih =>
    intro cnt p p0
    refine x_ls h hg (fun c p p0 => x_bk h ih (fun c p A q p0 e => (p_L_i hg d c p A q p0 e).2) c p p0) (fun c p A q p0 e => ?_) 41 cnt p p0
    unfold p_bk at e
    split at e
    · obtain ⟨a, q1, e1, e2⟩ := p_b_i e
      have h1 := (p_L_i hg d _ _ _ _ (nx_0 p0) e1).2
      obtain ⟨a2, q2, e3, e4⟩ := p_b_i e2
      have h2 := p_sg_i h1 e3
      cases e4; exact h2
    · cases e
theorem x_rs (h : AGR f g n) (hg : t_by g n) : ∀ (m : Nat) (pl : Int → Int) (p : Int), 0 ≤ p → p_rs f n m pl p = p_rs g n m pl p := by
  intro m
  induction m with
  | zero => intro pl p p0; rfl
  | succ m ih =>
    intro pl p p0
    have h1 := nx_0 (f := g) (n := n) p0
    have h2 := nx_0 (f := g) (n := n) h1
    rw [p_rs, p_rs, x_tk h p0, x_nx h p0, x_tk h h1, x_nx h h1, x_nu h h2]
    split
    · split
      · refine p_b_c rfl (fun v q e => ?_)
        have h3 := (p_nu_i hg h2 e).2
        refine p_b_c (x_sg h h3 _) (fun _ q' e' => ?_)
        exact ih _ _ (p_sg_i h3 e')
      · rfl
    · rfl
theorem x_P (h : AGR f g n) (hg : t_by g n) : p_P f n = p_P g n := by
  unfold p_P
  have e0 : sk f n 0 = sk g n 0 := by unfold sk; exact x_rn h (Int.le_refl 0)
  have h0 : 0 ≤ sk g n 0 := sk_ge
  rw [e0]
  refine p_b_c (x_rs h hg 4 _ _ h0) (fun pl q e => ?_)
  have h1 := p_rs_i 4 _ _ _ _ h0 e
  refine p_b_c (x_L h hg 5 0 q h1) (fun A q2 e2 => ?_)
  have h2 := (p_L_i hg 5 _ _ _ _ h1 e2).2
  rw [x_tk h h2]
end TXE
