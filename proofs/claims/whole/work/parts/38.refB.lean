/-! reading, failed or not: x says what has been read so far -/
def RA {α : Type} (r : St) (x : PX α) (p ft : Int) : Prop := 0 ≤ p ∧ match x with
  | .inl q => ft = q ∧ 0 ≤ q
  | .inr (_, q) => ft = -1 ∧ sk (r 139) (r 136 6) p = q
section RB
variable {sc : Nat × (Nat → Int32)} {D : Nat} {bb : Bool} {S r : St} {Q : QP} {p b ft dp : Int} {α : Type} {x : PX α}
theorem p_b_inl {β γ : Type} {q : Int} {g : β → Int → PX γ} : p_b (.inl q) g = .inl q := rfl
theorem p_b_inr {β γ : Type} {a : β} {q : Int} {g : β → Int → PX γ} : p_b (.inr (a, q)) g = g a q := rfl
theorem p_b_b {β γ δ : Type} {y : PX β} {g : β → Int → PX γ} {h : γ → Int → PX δ} : p_b (p_b y g) h = p_b y (fun a q => p_b (g a q) h) := by
  rcases y with q | ⟨a, q⟩ <;> rfl
theorem nx_RA (hp : 0 ≤ p) : sk (r 139) (r 136 6) (te (r 139) (r 136 6) p) = nx (r 139) (r 136 6) p := rfl
theorem te_0 (hp : 0 ≤ p) : 0 ≤ te (r 139) (r 136 6) p := by
  by_cases h : p < r 136 6
  · have := te_gt (f := r 139) h; omega
  · rw [(tk_past (by omega)).2]; exact hp
theorem m_127 (hr : RH r) (hx : RA r x p ft) {c : Int} (hc : 0 ≤ c ∧ c ≤ 127) (c1 : t_let c = false) (c2 : t_dg c = false) (c3 : c ≠ 60)
    (kk : ∀ p' b' ft', RA r (p_b x (fun _ q => p_sg (r 139) (r 136 6) c q)) p' ft' → Q (.inl none) bb (RP S r p' b' ft' dp)) : qx sc (D + 3) 127 0 [vr 136, vi c] [] (0, 0) bb (RP S r p b ft dp) Q := by
  obtain ⟨hp, hx⟩ := hx
  rw [c127 hr hp]
  rcases x with q | ⟨a, q⟩
  · simp only at hx
    obtain ⟨h1, h2⟩ := hx
    refine ⟨fun _ => kk p b ft ⟨hp, h1, h2⟩, fun h => by omega⟩
  · simp only at hx
    obtain ⟨h1, h2⟩ := hx
    have hq := sk_0 (r := r) hp
    rw [h2] at hq ⊢
    have ht := tk_sign (n := r 136 6) hr.2.2 hq hc c1 c2 c3
    simp only [p_b_inr, p_sg] at kk
    refine ⟨fun h => absurd h1 h, fun _ => ⟨fun h => ?_, fun h => ?_⟩⟩
    · rw [if_pos (ht.mpr h)] at kk
      rw [h1]
      refine kk _ _ _ ⟨by omega, rfl, ?_⟩
      rw [← te_sign (n := r 136 6) hr.2.2 hq c1 c2 c3 h.1 h.2]
      rfl
    · rw [if_neg (fun q => h (ht.mp q))] at kk
      exact kk _ _ _ ⟨hq, rfl, hq⟩
theorem m_228 (hr : RH r) (hx : RA r x p ft)
    (kk : ∀ v p' b' ft', RA r (p_b x (fun _ q => p_va (r 139) (r 136 6) q)) p' ft' → (∀ w q, p_b x (fun _ q => p_va (r 139) (r 136 6) q) = .inr (w, q) → v = w) → 0 ≤ v → v ≤ 7 → Q (.inl (some (vi v))) bb (RP S r p' b' ft' dp)) : qx sc (D + 4) 228 0 [vr 136] [] (0, 0) bb (RP S r p b ft dp) Q := by
  obtain ⟨hp, hx⟩ := hx
  rw [c228 hr hp]
  rcases x with q | ⟨a, q⟩
  · simp only at hx
    obtain ⟨h1, h2⟩ := hx
    exact ⟨fun _ => kk 0 p b ft ⟨hp, h1, h2⟩ (fun w q e => by cases e) (by omega) (by omega), fun h => by omega⟩
  · simp only at hx
    obtain ⟨h1, h2⟩ := hx
    have hq := sk_0 (r := r) hp
    rw [h2] at hq ⊢
    simp only [p_b_inr, p_va] at kk
    refine ⟨fun h => absurd h1 h, fun _ => ⟨fun h => ?_, fun h => ?_⟩⟩
    · rw [if_pos h] at kk
      rw [h1]
      exact kk _ _ _ _ ⟨te_0 hq, rfl, rfl⟩ (fun w q e => by cases e; rfl) (by omega) (by omega)
    · rw [if_neg h] at kk
      exact kk _ _ _ _ ⟨hq, rfl, hq⟩ (fun w q e => by cases e) (by omega) (by omega)
/-- which rows are told, as a set and as numbers -/
def PL (r : St) (pl : Int → Int) : Prop := ∀ k, 0 ≤ k → k ≤ 2 → (q_bit (r 136 13) k = 0 ↔ pl k = -1)
theorem m_206 (hr : RH r) {pl : Int → Int} (hpl : PL r pl) (hx : RA r x p ft)
    (kk : ∀ v p' b' ft', RA r (p_b x (fun _ q => p_ro (r 139) (r 136 6) pl q)) p' ft' → (∀ w q, p_b x (fun _ q => p_ro (r 139) (r 136 6) pl q) = .inr (w, q) → v = w) → 0 ≤ v → v ≤ 2 → Q (.inl (some (vi v))) bb (RP S r p' b' ft' dp)) : qx sc (D + 3) 206 0 [vr 136] [] (0, 0) bb (RP S r p b ft dp) Q := by
  obtain ⟨hp, hx⟩ := hx
  rw [c206 hr hp]
  rcases x with q | ⟨a, q⟩
  · simp only at hx
    obtain ⟨h1, h2⟩ := hx
    exact ⟨fun _ => kk 0 p b ft ⟨hp, h1, h2⟩ (fun w q e => by cases e) (by omega) (by omega), fun h => by omega⟩
  · simp only at hx
    obtain ⟨h1, h2⟩ := hx
    have hq := sk_0 (r := r) hp
    rw [h2] at hq ⊢
    simp only [p_b_inr, p_ro] at kk
    have he : ((65 ≤ tk (r 139) (r 136 6) q ∧ tk (r 139) (r 136 6) q ≤ 67) ∧ ¬ q_bit (r 136 13) (tk (r 139) (r 136 6) q - 65) = 0) ↔ ((65 ≤ tk (r 139) (r 136 6) q ∧ tk (r 139) (r 136 6) q ≤ 67) ∧ ¬ pl (tk (r 139) (r 136 6) q - 65) = -1) := by
      constructor
      · rintro ⟨a1, a2⟩
        exact ⟨a1, fun e => a2 ((hpl _ (by omega) (by omega)).mpr e)⟩
      · rintro ⟨a1, a2⟩
        exact ⟨a1, fun e => a2 ((hpl _ (by omega) (by omega)).mp e)⟩
    rw [he]
    refine ⟨fun h => absurd h1 h, fun _ => ⟨fun h => ?_, fun h => ?_⟩⟩
    · rw [if_pos h] at kk
      rw [h1]
      exact kk _ _ _ _ ⟨te_0 hq, rfl, rfl⟩ (fun w q e => by cases e; rfl) (by omega) (by omega)
    · rw [if_neg h] at kk
      exact kk _ _ _ _ ⟨hq, rfl, hq⟩ (fun w q e => by cases e) (by omega) (by omega)
theorem m_189 (hr : RH r) (hx : RA r x p ft) {most : Int}
    (kk : ∀ v p' b' ft', RA r (p_b x (fun _ q => p_nu (r 139) (r 136 6) most q)) p' ft' → (∀ w q, p_b x (fun _ q => p_nu (r 139) (r 136 6) most q) = .inr (w, q) → v = w) → 0 ≤ v → v ≤ 999 → Q (.inl (some (vi v))) bb (RP S r p' b' ft' dp)) : qx sc (D + 3) 189 0 [vr 136, vi most, vn] [] (0, 0) bb (RP S r p b ft dp) Q := by
  obtain ⟨hp, hx⟩ := hx
  have hq := sk_0 (r := r) hp
  rcases x with q | ⟨a, q⟩
  · simp only at hx
    obtain ⟨h1, h2⟩ := hx
    exact c189 hr hp (fun h => by omega) (fun h => by omega) (fun _ => kk 0 p b ft ⟨hp, h1, h2⟩ (fun w q e => by cases e) (by omega) (by omega))
  · simp only at hx
    obtain ⟨h1, h2⟩ := hx
    simp only [p_b_inr, p_nu] at kk
    refine c189 hr hp (fun _ e1 e2 => ?_) (fun _ e1 v p' v1 v2 v3 => ?_) (fun h => absurd h1 h)
    · rw [h2] at e1 e2 hq ⊢
      rw [if_pos ⟨e1, e2⟩] at kk
      rw [h1]
      have hn := (tk_num hr.2.2 hq).mp e1
      have ht := tw_range (n := r 136 6) hn.1 hn.2.1
      exact kk _ _ _ _ ⟨te_0 hq, rfl, rfl⟩ (fun w q e => by cases e; rfl) (by omega) (by omega)
    · rw [h2] at e1 hq ⊢
      rw [if_neg e1] at kk
      exact kk _ _ _ _ ⟨v3, rfl, hq⟩ (fun w q e => by cases e) (by omega) (by omega)
/-- a sign is taken, if it stands there -/
theorem m_219 (hr : RH r) (hx : RA r x p ft) {c : Int} (hc : 0 ≤ c ∧ c ≤ 127) (c1 : t_let c = false) (c2 : t_dg c = false) (c3 : c ≠ 60)
    (k1 : ∀ a q p' b', x = .inr (a, q) → tk (r 139) (r 136 6) q = c → RA r (.inr ((), nx (r 139) (r 136 6) q) : PX Unit) p' (-1) → Q (.inl (some (vi 1))) bb (RP S r p' b' (-1) dp))
    (k0 : ∀ p' b', (∀ a q, x = .inr (a, q) → tk (r 139) (r 136 6) q ≠ c ∧ b' = q) → RA r x p' ft → Q (.inl (some (vi 0))) bb (RP S r p' b' ft dp)) : qx sc (D + 2) 219 0 [vr 136, vi c] [] (0, 0) bb (RP S r p b ft dp) Q := by
  obtain ⟨hp, hx⟩ := hx
  have hq := sk_0 (r := r) hp
  rw [c219 hr hp]
  rcases x with q | ⟨a, q⟩
  · simp only at hx
    obtain ⟨h1, h2⟩ := hx
    exact ⟨fun h => by omega, fun _ => k0 _ _ (fun a q e => by cases e) ⟨hq, h1, h2⟩⟩
  · simp only at hx
    obtain ⟨h1, h2⟩ := hx
    rw [h2] at hq ⊢
    have ht := tk_sign (n := r 136 6) hr.2.2 hq hc c1 c2 c3
    refine ⟨fun h => ?_, fun h => ?_⟩
    · rw [h1]
      refine k1 a q _ _ rfl (ht.mpr h.2) ⟨by omega, rfl, ?_⟩
      rw [← te_sign (n := r 136 6) hr.2.2 hq c1 c2 c3 h.2.1 h.2.2]
      rfl
    · refine k0 _ _ (fun a' q' e => ?_) ⟨hq, h1, ?_⟩
      · cases e
        exact ⟨fun e2 => h ⟨h1, ht.mp e2⟩, rfl⟩
      · rw [← h2]; exact sk_id
theorem m_163 (hr : RH r) (hx : RA r x p ft)
    (k1 : ∀ a q p' b', x = .inr (a, q) → q < r 136 6 → t_dg (r 139 q) = true → RA r x p' ft → Q (.inl (some (vi 1))) bb (RP S r p' b' ft dp))
    (k0 : ∀ p' b', (∀ a q, x = .inr (a, q) → ¬ (q < r 136 6 ∧ t_dg (r 139 q) = true)) → RA r x p' ft → Q (.inl (some (vi 0))) bb (RP S r p' b' ft dp)) : qx sc (D + 2) 163 0 [vr 136] [] (0, 0) bb (RP S r p b ft dp) Q := by
  obtain ⟨hp, hx⟩ := hx
  have hq := sk_0 (r := r) hp
  rw [c163 hr hp]
  rcases x with q | ⟨a, q⟩
  · simp only at hx
    obtain ⟨h1, h2⟩ := hx
    exact ⟨fun h => by omega, fun _ => k0 _ _ (fun a q e => by cases e) ⟨hq, h1, h2⟩⟩
  · simp only at hx
    obtain ⟨h1, h2⟩ := hx
    have hs : sk (r 139) (r 136 6) q = q := by rw [← h2]; exact sk_id
    rw [h2] at hq ⊢
    refine ⟨fun h => k1 a q _ _ rfl h.2.1 h.2.2 ⟨hq, h1, hs⟩, fun h => k0 _ _ (fun a' q' e e2 => ?_) ⟨hq, h1, hs⟩⟩
    cases e
    exact h ⟨h1, e2⟩
theorem m_164 (hr : RH r) (hx : RA r x p ft)
    (k1 : ∀ a q p' b', x = .inr (a, q) → 65 ≤ tk (r 139) (r 136 6) q ∧ tk (r 139) (r 136 6) q ≤ 67 → RA r x p' ft → p' = q → b' = q → Q (.inl (some (vi 1))) bb (RP S r p' b' ft dp))
    (k0 : ∀ p' b', (∀ a q, x = .inr (a, q) → ¬ (65 ≤ tk (r 139) (r 136 6) q ∧ tk (r 139) (r 136 6) q ≤ 67) ∧ b' = q) → RA r x p' ft → Q (.inl (some (vi 0))) bb (RP S r p' b' ft dp)) : qx sc (D + 2) 164 0 [vr 136] [] (0, 0) bb (RP S r p b ft dp) Q := by
  obtain ⟨hp, hx⟩ := hx
  have hq := sk_0 (r := r) hp
  rw [c164 hr hp]
  rcases x with q | ⟨a, q⟩
  · simp only at hx
    obtain ⟨h1, h2⟩ := hx
    exact ⟨fun h => by omega, fun _ => k0 _ _ (fun a q e => by cases e) ⟨hq, h1, h2⟩⟩
  · simp only at hx
    obtain ⟨h1, h2⟩ := hx
    have hs : sk (r 139) (r 136 6) q = q := by rw [← h2]; exact sk_id
    rw [h2] at hq ⊢
    refine ⟨fun h => k1 a q _ _ rfl h.2 ⟨hq, h1, hs⟩ rfl rfl, fun h => k0 _ _ (fun a' q' e => ?_) ⟨hq, h1, hs⟩⟩
    cases e
    exact ⟨fun e2 => h ⟨h1, e2⟩, rfl⟩
/-- a word is taken, if it stands there: j its number among the texts, c what it is -/
theorem m_221 (hr : RH r) (hx : RA r x p ft) {j : Nat} {c : Int} (hj : (j, c) ∈ [(6, (256 : Int)), (7, 257), (8, 258), (9, 260), (10, 259), (11, 261)])
    (k1 : ∀ a q p' b', x = .inr (a, q) → tk (r 139) (r 136 6) q = c → RA r (.inr ((), nx (r 139) (r 136 6) q) : PX Unit) p' (-1) → Q (.inl (some (vi 1))) bb (RP S r p' b' (-1) dp))
    (k0 : ∀ p' b', (∀ a q, x = .inr (a, q) → tk (r 139) (r 136 6) q ≠ c ∧ b' = q) → RA r x p' ft → Q (.inl (some (vi 0))) bb (RP S r p' b' ft dp)) : qx sc (D + 4) 221 0 [vr 136, vr (q_tr j), vn] [] (0, 0) bb (RP S r p b ft dp) Q := by
  obtain ⟨hp, hx⟩ := hx
  have hq := sk_0 (r := r) hp
  have hj12 : j < 12 := by
    simp only [List.mem_cons, Prod.mk.injEq, List.not_mem_nil, or_false] at hj
    omega
  rw [c221 hr hp hj12]
  rcases x with q | ⟨a, q⟩
  · simp only at hx
    obtain ⟨h1, h2⟩ := hx
    exact ⟨fun _ => k0 p b (fun a q e => by cases e) ⟨hp, h1, h2⟩, fun h => by omega⟩
  · simp only at hx
    obtain ⟨h1, h2⟩ := hx
    have hs : sk (r 139) (r 136 6) q = q := by rw [← h2]; exact sk_id
    rw [h2] at hq ⊢
    have hw : t_is r q j ↔ tk (r 139) (r 136 6) q = c := by
      unfold t_is
      simp only [List.mem_cons, Prod.mk.injEq, List.not_mem_nil, or_false] at hj
      rcases hj with ⟨rfl, rfl⟩ | ⟨rfl, rfl⟩ | ⟨rfl, rfl⟩ | ⟨rfl, rfl⟩ | ⟨rfl, rfl⟩ | ⟨rfl, rfl⟩ <;> exact (tk_word (n := r 136 6) hr.2.2 hq (by decide)).symm
    rw [hw]
    refine ⟨fun h => absurd h1 h, fun _ => ⟨fun h => ?_, fun h => ?_⟩⟩
    · rw [h1]
      exact k1 a q _ _ rfl h ⟨te_0 hq, rfl, rfl⟩
    · refine k0 _ _ (fun a' q' e => ?_) ⟨hq, h1, hs⟩
      cases e
      exact ⟨h, rfl⟩
theorem m_169 (hr : RH r) (hx : RA r x p ft) {j : Nat} {c : Int} (hj : (j, c) ∈ [(6, (256 : Int)), (7, 257), (8, 258), (9, 260), (10, 259), (11, 261)])
    (k1 : ∀ a q p' b', x = .inr (a, q) → tk (r 139) (r 136 6) q = c → RA r x p' ft → b' = q → Q (.inl (some (vi 1))) bb (RP S r p' b' ft dp))
    (k0 : ∀ p' b', (∀ a q, x = .inr (a, q) → tk (r 139) (r 136 6) q ≠ c ∧ b' = q) → RA r x p' ft → Q (.inl (some (vi 0))) bb (RP S r p' b' ft dp)) : qx sc (D + 3) 169 0 [vr 136, vr (q_tr j), vn, vn] [] (0, 0) bb (RP S r p b ft dp) Q := by
  obtain ⟨hp, hx⟩ := hx
  have hq := sk_0 (r := r) hp
  have hj12 : j < 12 := by
    simp only [List.mem_cons, Prod.mk.injEq, List.not_mem_nil, or_false] at hj
    omega
  rw [c169 hr hp hj12]
  rcases x with q | ⟨a, q⟩
  · simp only at hx
    obtain ⟨h1, h2⟩ := hx
    exact ⟨fun _ => k0 p b (fun a q e => by cases e) ⟨hp, h1, h2⟩, fun h => by omega⟩
  · simp only at hx
    obtain ⟨h1, h2⟩ := hx
    have hs : sk (r 139) (r 136 6) q = q := by rw [← h2]; exact sk_id
    rw [h2] at hq ⊢
    have hw : t_is r q j ↔ tk (r 139) (r 136 6) q = c := by
      unfold t_is
      simp only [List.mem_cons, Prod.mk.injEq, List.not_mem_nil, or_false] at hj
      rcases hj with ⟨rfl, rfl⟩ | ⟨rfl, rfl⟩ | ⟨rfl, rfl⟩ | ⟨rfl, rfl⟩ | ⟨rfl, rfl⟩ | ⟨rfl, rfl⟩ <;> exact (tk_word (n := r 136 6) hr.2.2 hq (by decide)).symm
    rw [hw]
    refine ⟨fun h => absurd h1 h, fun _ => ⟨fun h => ?_, fun h => ?_⟩⟩
    · exact k1 a q _ _ rfl h ⟨hq, h1, hs⟩ rfl
    · refine k0 _ _ (fun a' q' e => ?_) ⟨hq, h1, hs⟩
      cases e
      exact ⟨h, rfl⟩
theorem m_168 (hr : RH r) (hx : RA r x p ft)
    (k1 : ∀ a q p' b', x = .inr (a, q) → 97 ≤ tk (r 139) (r 136 6) q ∧ tk (r 139) (r 136 6) q ≤ 104 → RA r x p' ft → b' = q → Q (.inl (some (vi 1))) bb (RP S r p' b' ft dp))
    (k0 : ∀ p' b', (∀ a q, x = .inr (a, q) → ¬ (97 ≤ tk (r 139) (r 136 6) q ∧ tk (r 139) (r 136 6) q ≤ 104) ∧ b' = q) → RA r x p' ft → Q (.inl (some (vi 0))) bb (RP S r p' b' ft dp)) : qx sc (D + 3) 168 0 [vr 136] [] (0, 0) bb (RP S r p b ft dp) Q := by
  obtain ⟨hp, hx⟩ := hx
  have hq := sk_0 (r := r) hp
  rw [c168 hr hp]
  rcases x with q | ⟨a, q⟩
  · simp only at hx
    obtain ⟨h1, h2⟩ := hx
    exact ⟨fun _ => k0 p b (fun a q e => by cases e) ⟨hp, h1, h2⟩, fun h => by omega⟩
  · simp only at hx
    obtain ⟨h1, h2⟩ := hx
    have hs : sk (r 139) (r 136 6) q = q := by rw [← h2]; exact sk_id
    rw [h2] at hq ⊢
    refine ⟨fun h => absurd h1 h, fun _ => ⟨fun h => k1 a q _ _ rfl h ⟨hq, h1, hs⟩ rfl, fun h => k0 _ _ (fun a' q' e => ?_) ⟨hq, h1, hs⟩⟩⟩
    cases e
    exact ⟨h, rfl⟩
/-- has it failed? -/
theorem m_154 (hx : RA r x p ft) (k1 : ∀ q, x = .inl q → ft = q → Q (.inl (some (vi 1))) bb (RP S r p b ft dp)) (k0 : ∀ a q, x = .inr (a, q) → ft = -1 → Q (.inl (some (vi 0))) bb (RP S r p b ft dp)) : qx sc D 154 0 [vr 136] [] (0, 0) bb (RP S r p b ft dp) Q := by
  obtain ⟨hp, hx⟩ := hx
  rw [c154, RP_ft]
  rcases x with q | ⟨a, q⟩
  · simp only at hx
    exact ⟨fun _ => k1 q rfl hx.1, fun h => by omega⟩
  · simp only at hx
    exact ⟨fun h => absurd hx.1 h, fun _ => k0 a q rfl hx.1⟩
end RB
