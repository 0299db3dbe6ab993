/-! a whole program by its rows -/
def at_ {β : Type} (l : List β) (d : β) (i : Int) : β := l.getD i.toNat d
theorem IS_at_ {β : Type} {d : β} : ∀ (l pre : List β), IS (at_ (pre ++ l) d) pre.length l := by
  intro l
  induction l with
  | nil => intro pre; trivial
  | cons x l ih =>
    intro pre
    refine ⟨?_, ?_⟩
    · show (pre ++ x :: l).getD ((pre.length : Int)).toNat d = x
      rw [Int.toNat_natCast]
      simp
    · have := ih (pre ++ [x])
      rw [List.append_assoc, List.length_append] at this
      exact this
theorem IS_at {β : Type} {d : β} (l : List β) : IS (at_ l d) 0 l := IS_at_ l []
def GG (L : List (ST 5)) : GT := (at_ (s_P L).1 ((0, 0, 0, 0, 0), (0, 0, 0, 0, 0), (0, (0, 0), (0, 0))), at_ (s_P L).2.1 (0, 0, 0), at_ (s_P L).2.2 (0, 0), at_ (VS L) ((0, 0, 0, 0, 0), (0, 0, 0), (0, t0, t0)), at_ (n_P L).2.2.1 m_no, at_ (n_P L).2.2.2.1 (0, 0, 0), at_ (n_P L).2.2.2.2.1 (0, 0), at_ (n_P L).2.2.2.2.2 (0, 0, 0))
theorem GG_V (L : List (ST 5)) : IS (gV (GG L)) 0 (v_beg 8 0) ∧ IS (gV (GG L)) 8 (n_P L).2.1 := by
  have h : IS (gV (GG L)) 0 (VS L) := IS_at _
  unfold VS at h
  rw [IS_app, v_beg_len] at h
  exact h
theorem GG_seg (L : List (ST 5)) : SEG (GG L) (s_P L) (n_P L) 0 0 0 8 0 := ⟨⟨IS_at _, IS_at _, IS_at _⟩, (GG_V L).2, IS_at _, IS_at _, IS_at _, IS_at _⟩
theorem v_beg_at {G : GT} : ∀ (k : Nat) (x : Int), IS (gV G) x (v_beg k x) → ∀ i, x ≤ i → i < x + k → gV G i = ((i, 0, -1, -1, -1), (0, -1, 0), (0, (1, 0, 0), (1, 0, 0))) := by
  intro k
  induction k with
  | zero => intro x _ i h1 h2; omega
  | succ k ih =>
    intro x h i h1 h2
    by_cases e : i = x
    · subst e; exact h.1
    · exact ih (x + 1) h.2 i (by omega) (by omega)
/-- how many assignments -/
def cv : List VR → Nat
  | [] => 0
  | x :: L => (if x.1.2.1 = 1 then 1 else 0) + cv L
theorem cv_app : ∀ a b : List VR, cv (a ++ b) = cv a + cv b := by
  intro a b
  induction a with
  | nil => simp [cv]
  | cons x a ih => rw [List.cons_append, cv, cv, ih, Nat.add_assoc]
theorem cv_sd {t : TT} {sv0 sv1 how s : Int} (h : ¬ how = 1) : cv (v_sd t sv0 sv1 how s) = 0 := by
  unfold v_sd v_s0 v_s1
  rw [cv_app]
  split <;> split <;> simp [cv, h]
theorem cv_join {set s : Int} {one other : Int → Int} : ∀ (n : Nat) (x : Int), cv (v_join set one other s n x) = 0 := by
  intro n
  induction n with
  | zero => intro x; rfl
  | succ n ih =>
    intro x
    rw [v_join]
    split
    · exact ih _
    · rw [cv, ih]; rfl
theorem cv_round {set s : Int} {one other : Int → Int} : ∀ (n : Nat) (x : Int), cv (v_round set one other s n x) = 0 := by
  intro n
  induction n with
  | zero => intro x; rfl
  | succ n ih =>
    intro x
    rw [v_round]
    split
    · exact ih _
    · rw [cv, ih]; rfl
def CVN (ks : List (Int × Int)) (g : NF) : Prop := ∀ s k l v c ar now, cv (g s k l v c ar now).2.1 ≤ c_a ks
theorem CVN_b {z : SB} : CVN [(z.1.1, z.1.2.1)] (n_b z) := by
  intro s k l v c ar now
  unfold n_b
  by_cases g : z.1.1 = 0
  · have e : c_a [(z.1.1, z.1.2.1)] = 1 := by simp [c_a, g]
    rw [e, if_pos g]
    split
    · simp [cv, v_chk, v_val]
    · simp [cv, v_val]
  · rw [if_neg g]
    split
    · simp [cv, v_chk]
    · simp [cv]
theorem CVN_S {pl : Int → Int} : ∀ d : Nat, (∀ x : ST d, VALS pl d x → CVN (ks_S d x) (n_S d x)) ∧ (∀ L : List (ST d), VALl (VALS pl d) L → CVN (ks_L d L) (n_LL d L)) := by
  refine ST_ind (P := fun d x => CVN (ks_S d x) (n_S d x)) (PL := fun d L => CVN (ks_L d L) (n_LL d L)) ?_ ?_ ?_ ?_ ?_ ?_
  · intro x _; rw [ks_S_0, n_S_0]; exact CVN_b
  · intro d x _; rw [ks_S_b, n_S_b]; exact CVN_b
  · intro d t A B _ _ _ hA hB s k l v c ar now
    rw [ks_S_if, n_S_if, n_if_eq rfl rfl rfl rfl, (c_3 _).2.1, c_a_app]
    dsimp only
    rw [cv_app, cv_app, cv_app, cv_app, cv_sd (by decide), cv_sd (by decide), cv_join]
    simp only [Nat.zero_add, Nat.add_zero]
    exact Nat.add_le_add (hA _ _ _ _ _ _ _) (hB _ _ _ _ _ _ _)
  · intro d t A B _ _ hA s k l v c ar now
    rw [ks_S_wh, n_S_wh, n_wh_eq rfl rfl rfl rfl, (c_4 _).2.1]
    dsimp only
    rw [cv_app, cv_app, cv_app, cv_sd (by decide), cv_sd (by decide), cv_round]
    simp only [Nat.zero_add, Nat.add_zero]
    exact hA _ _ _ _ _ _ _
  · intro d s k l v c ar now
    exact Nat.zero_le _
  · intro d x L _ _ h1 h2 s k l v c ar now
    have en : n_LL d (x :: L) s k l v c ar now = o_app (n_S d x s k l v c ar now) (n_LL d L (s + (n_S d x s k l v c ar now).2.2.1.length) (k + (n_S d x s k l v c ar now).2.2.2.1.length) (l + (n_S d x s k l v c ar now).2.2.2.2.1.length) (v + (n_S d x s k l v c ar now).2.1.length) (c + (n_S d x s k l v c ar now).2.2.2.2.2.length) ar (n_S d x s k l v c ar now).1) := rfl
    rw [en, oap_2, cv_app, ks_L_c, c_a_app]
    exact Nat.add_le_add (h1 _ _ _ _ _ _ _) (h2 _ _ _ _ _ _ _)
theorem cv_sm {G : GT} : ∀ (l : List VR) (i : Nat), IS (gV G) i l → l_sm (e_as G) (i + l.length) = l_sm (e_as G) i + cv l := by
  intro l
  induction l with
  | nil => intro i _; simp [cv]
  | cons x l ih =>
    intro i h
    have h2 := ih (i + 1) (by rw [Int.natCast_add]; exact h.2)
    rw [List.length_cons, show i + (l.length + 1) = i + 1 + l.length by omega, h2, l_sm, cv]
    unfold e_as
    rw [h.1]
    split <;> simp <;> omega
/-- all that is known of a program's rows -/
def PRO (G : GT) (pl : Int → Int) (V S K Ln : Nat) : Prop := (∀ i : Int, 0 ≤ i → i < V → WV G pl V i) ∧ (8 ≤ V ∧ V ≤ 240 ∧ S ≤ 40 ∧ K ≤ S ∧ Ln ≤ S) ∧ (∀ k, k = 0 ∨ k = 1 ∨ k = 2 → -1 ≤ pl k ∧ pl k ≤ 20) ∧ l_sm (e_as G) V ≤ 40 ∧ WKL G pl 5 0 S 0 K 0 Ln 0 V
theorem PRO_of {pl : Int → Int} {L : List (ST 5)} (h : VALl (VALS pl 5) L) (h40 : (s_P L).1.length ≤ 40) (hK : (s_P L).2.1.length ≤ (s_P L).1.length) (hL : (s_P L).2.2.length ≤ (s_P L).1.length) (hpl : ∀ k, k = 0 ∨ k = 1 ∨ k = 2 → -1 ≤ pl k ∧ pl k ≤ 20) : PRO (GG L) pl (VS L).length (s_P L).1.length (s_P L).2.1.length (s_P L).2.2.length := by
  have h240 := VS_240 h h40
  have hlen := VS_len L
  have hsg := GG_seg L
  have hni : NWI id8 8 := by
    intro i i0 i1
    unfold id8 nz
    rw [if_pos ⟨i0, i1⟩]
    dsimp only
    omega
  have hbeg := v_beg_at 8 0 (GG_V L).1
  have hnv : NWV (GG L) id8 := by
    intro x x0 x1
    have e : id8 x = x := by unfold id8 nz; rw [if_pos ⟨x0, x1⟩]
    rw [e, hbeg x x0 (by omega)]
  have hW : ∀ i : Int, 0 ≤ i → i < (VS L).length → WV (GG L) pl (VS L).length i := by
    intro i i0 i1
    by_cases h8 : i < 8
    · unfold WV
      rw [hbeg i i0 (by omega)]
      exact ⟨by dsimp only; omega, Or.inl ⟨rfl, ⟨rfl, rfl, rfl⟩, rfl⟩⟩
    · refine (WFN_S (pl := pl) 5).2 L h (GG L) (VS L).length (-1) 0 0 0 8 0 id8 (by decide) hni nz_nz ?_ hsg i (by omega) ?_
      · show 8 + ((n_P L).2.1.length : Int) ≤ _
        omega
      · show i < 8 + ((n_P L).2.1.length : Int)
        omega
  refine ⟨hW, ⟨by omega, h240, h40, hK, hL⟩, hpl, ?_, ?_⟩
  · have e1 := cv_sm (G := GG L) (VS L) 0 (IS_at _)
    rw [Nat.zero_add] at e1
    rw [e1]
    have e2 := (CVN_S (pl := pl) 5).2 L h 0 0 0 8 0 (-1) id8
    have e3 : cv (v_beg 8 0) = 0 := rfl
    have h1 := c_len (ks_L 5 L)
    have h2 := c_an (ks_L 5 L)
    have h3 := congrArg List.length (ks_sL L (-1) 0 0 0)
    rw [List.length_map] at h3
    unfold s_P at h40
    unfold VS
    rw [cv_app, e3]
    have e4 : cv (n_P L).2.1 ≤ c_a (ks_L 5 L) := e2
    have e5 : l_sm (e_as (GG L)) 0 = 0 := rfl
    omega
  · have := ((WKN_S (pl := pl) 5).2 L h (GG L) 0 (-1) 0 0 0 8 0 id8 (by decide) (by decide) hni nz_nz hnv (by decide) (by decide) rfl hsg).1
    obtain ⟨p1, p2, p3⟩ := this
    have e1 : (0 : Int) + ((s_L 5 L (-1) 0 0 0).1.length : Int) = ((s_P L).1.length : Int) := by rw [Int.zero_add]; rfl
    have e2 : (0 : Int) + ((s_L 5 L (-1) 0 0 0).2.1.length : Int) = ((s_P L).2.1.length : Int) := by rw [Int.zero_add]; rfl
    have e3 : (0 : Int) + ((s_L 5 L (-1) 0 0 0).2.2.length : Int) = ((s_P L).2.2.length : Int) := by rw [Int.zero_add]; rfl
    have e4 : (8 : Int) + ((n_LL 5 L 0 0 0 8 0 (-1) id8).2.1.length : Int) = ((VS L).length : Int) := by rw [hlen]; show _ = ((8 + (n_P L).2.1.length : Nat) : Int); rw [Int.natCast_add]; rfl
    rw [e1, e3, e4] at p1 p3
    rw [e2] at p1 p2
    refine ⟨fun j h1 h2 => ⟨WK_up (p1 j h1 h2).1 (by omega) (by omega) (by omega) (by omega), (p1 j h1 h2).2⟩, p2, fun j h1 h2 => WL_up (p3 j h1 h2) (by omega) (by omega) (by omega) (by omega)⟩
