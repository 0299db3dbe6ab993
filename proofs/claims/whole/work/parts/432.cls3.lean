/-! what a text is told as: statements, checks, loops in rows -/
abbrev SR : Type := (Int × Int × Int × Int × Int) × (Int × Int × Int × Int × Int) × TT
abbrev KR : Type := Int × Int × Int
abbrev LR : Type := Int × Int
/-- rows from i0 on are as told -/
def TAB {β : Type} (ok : Int → β → Prop) : Int → List β → Prop
  | _, [] => True
  | i, x :: L => ok i x ∧ TAB ok (i + 1) L
theorem TAB_app {β : Type} {ok : Int → β → Prop} : ∀ (a : List β) (i : Int) (b : List β), TAB ok i (a ++ b) ↔ TAB ok i a ∧ TAB ok (i + a.length) b := by
  intro a
  induction a with
  | nil => intro i b; simp [TAB]
  | cons x a ih =>
    intro i b
    rw [List.cons_append, TAB, TAB, ih, List.length_cons, and_assoc, show i + 1 + (a.length : Int) = i + ((a.length + 1 : Nat) : Int) by omega]
theorem TAB_mono {β : Type} {ok ok' : Int → β → Prop} : ∀ (L : List β) (i : Int), (∀ j x, i ≤ j → j < i + L.length → ok j x → ok' j x) → TAB ok i L → TAB ok' i L := by
  intro L
  induction L with
  | nil => intro i _ _; trivial
  | cons x L ih =>
    intro i h ht
    rw [List.length_cons] at h
    exact ⟨h i x (Int.le_refl _) (by omega) ht.1, ih (i + 1) (fun j y h1 h2 h3 => h j y (by omega) (by omega) h3) ht.2⟩
theorem TAB_get {β : Type} {ok : Int → β → Prop} : ∀ (L : List β) (i : Int), TAB ok i L → ∀ j : Nat, ∀ h : j < L.length, ok (i + j) L[j] := by
  intro L
  induction L with
  | nil => intro i _ j h; simp at h
  | cons x L ih =>
    intro i ht j h
    cases j with
    | zero => simpa using ht.1
    | succ j =>
      have := ih (i + 1) ht.2 j (by simpa using h)
      rw [show i + 1 + (j : Int) = i + ((j + 1 : Nat) : Int) by omega] at this
      simpa using this
def SRok (C : St) (i : Int) (x : SR) : Prop := C 2 i = x.1.1 ∧ C 3 i = x.1.2.1 ∧ C 4 i = x.1.2.2.1 ∧ C 5 i = x.1.2.2.2.1 ∧ C 6 i = x.1.2.2.2.2 ∧ C 7 i = x.2.1.1 ∧ C 8 i = x.2.1.2.1 ∧ C 9 i = x.2.1.2.2.1 ∧ C 10 i = x.2.1.2.2.2.1 ∧ C 11 i = x.2.1.2.2.2.2 ∧ (3 ≤ x.1.1 → C 17 i = x.2.2.1 ∧ C 19 i = x.2.2.2.1.1 ∧ C 22 i = x.2.2.2.1.2 ∧ C 20 i = x.2.2.2.2.1 ∧ C 23 i = x.2.2.2.2.2)
def KRok (C : St) (i : Int) (x : KR) : Prop := C 12 i = x.1 ∧ C 13 i = x.2.1 ∧ C 14 i = x.2.2
def LRok (C : St) (i : Int) (x : LR) : Prop := C 15 i = x.1
abbrev SO : Type := List SR × List KR × List LR
/-- one behind another -/
def s_seq : List (Int → Int → Int → SO) → Int → Int → Int → SO
  | [], _, _, _ => ([], [], [])
  | g :: gs, s, k, l =>
    let o := g s k l
    let o' := s_seq gs (s + o.1.length) (k + o.2.1.length) (l + o.2.2.length)
    (o.1 ++ o'.1, o.2.1 ++ o'.2.1, o.2.2 ++ o'.2.2)
def s_b (x : SB) (ar s k _l : Int) : SO := ([(x.1, (if x.2.1 = 1 then k else -1, -1, ar, s + 1, s + 1), (0, (0, 0), (0, 0)))], if x.2.1 = 1 then [(s, x.2.2.1, x.2.2.2)] else [], [])
def s_if (t : TT) (A B : Int → Int → Int → SO) (ar s k l : Int) : SO :=
  let a := A (s + 1) k l
  let b := B (s + 1 + a.1.length) (k + a.2.1.length) (l + a.2.2.length)
  (((3, -1, 0, -1, 0), (-1, -1, ar, s + 1 + a.1.length, s + 1 + a.1.length + b.1.length), t) :: (a.1 ++ b.1), a.2.1 ++ b.2.1, a.2.2 ++ b.2.2)
def s_wh (t : TT) (A : Int → Int → Int → SO) (ar s k l : Int) : SO :=
  let a := A (s + 1) k (l + 1)
  (((4, -1, 0, -1, 0), (-1, l, ar, s + 1 + a.1.length, s + 1 + a.1.length), t) :: a.1, a.2.1, (s, ar) :: a.2.2)
def s_S : (d : Nat) → ST d → Int → Int → Int → Int → SO
  | 0 => fun x ar s k l => s_b x ar s k l
  | d + 1 => fun x ar s k l => match (x : SB ⊕ ((Bool × TT) × List (ST d) × List (ST d))) with
    | .inl x => s_b x ar s k l
    | .inr y => if y.1.1 = true then s_wh y.1.2 (s_seq (y.2.1.map (fun z => s_S d z l))) ar s k l else s_if y.1.2 (s_seq (y.2.1.map (fun z => s_S d z ar))) (s_seq (y.2.2.map (fun z => s_S d z ar))) ar s k l
def s_L (d : Nat) (L : List (ST d)) (ar : Int) : Int → Int → Int → SO := s_seq (L.map (fun z => s_S d z ar))
/-- rows below the counts -/
def BEL (C : St) (j : Nat) (i : Int) : Prop := j = 1 ∨ (((2 ≤ j ∧ j ≤ 11) ∨ 16 ≤ j) ∧ i < C 0 0) ∨ (12 ≤ j ∧ j ≤ 14 ∧ i < C 0 1) ∨ (j = 15 ∧ i < C 0 2)
def IVC (C C' : St) : Prop := (∀ j i, BEL C j i → C' j i = C j i) ∧ C 0 0 ≤ C' 0 0 ∧ C 0 1 ≤ C' 0 1 ∧ C 0 2 ≤ C' 0 2
/-- rows are told as o says -/
def SOK (C C' : St) (o : SO) : Prop := TAB (SRok C') (C 0 0) o.1 ∧ TAB (KRok C') (C 0 1) o.2.1 ∧ TAB (LRok C') (C 0 2) o.2.2 ∧ C' 0 0 = C 0 0 + o.1.length ∧ C' 0 1 = C 0 1 + o.2.1.length ∧ C' 0 2 = C 0 2 + o.2.2.length ∧ IVC C C'
section KBG
variable {C C' C'' : St} {kind a i s x : Int} {j : Nat}
theorem K_beg_ne (h : j = 1 ∨ 12 ≤ j) : K_beg C kind a j i = C j i := by
  unfold K_beg
  rw [q_up_ne _ _ _ _ (by omega), q_up_ne _ _ _ _ (by omega), q_up_ne _ _ _ _ (by omega), q_up_ne _ _ _ _ (by omega), q_up_ne _ _ _ _ (by omega), q_up_ne _ _ _ _ (by omega), q_up_ne _ _ _ _ (by omega), q_up_ne _ _ _ _ (by omega), q_up_ne _ _ _ _ (by omega), q_up_ne _ _ _ _ (by omega), q_up_ne _ _ _ _ (by omega)]
theorem K_beg_0 : K_beg C kind a 0 i = if i = 0 then C 0 0 + 1 else C 0 i := by
  simp only [K_beg, q_up_app, Nat.reduceEqDiff, false_and, if_false, true_and]
theorem K_beg_2 : K_beg C kind a 2 i = if i = C 0 0 then kind else C 2 i := by
  simp only [K_beg, q_up_app, Nat.reduceEqDiff, false_and, if_false, true_and]
theorem K_beg_3 : K_beg C kind a 3 i = if i = C 0 0 then -1 else C 3 i := by
  simp only [K_beg, q_up_app, Nat.reduceEqDiff, false_and, if_false, true_and]
theorem K_beg_4 : K_beg C kind a 4 i = if i = C 0 0 then 0 else C 4 i := by
  simp only [K_beg, q_up_app, Nat.reduceEqDiff, false_and, if_false, true_and]
theorem K_beg_5 : K_beg C kind a 5 i = if i = C 0 0 then -1 else C 5 i := by
  simp only [K_beg, q_up_app, Nat.reduceEqDiff, false_and, if_false, true_and]
theorem K_beg_6 : K_beg C kind a 6 i = if i = C 0 0 then 0 else C 6 i := by
  simp only [K_beg, q_up_app, Nat.reduceEqDiff, false_and, if_false, true_and]
theorem K_beg_7 : K_beg C kind a 7 i = if i = C 0 0 then -1 else C 7 i := by
  simp only [K_beg, q_up_app, Nat.reduceEqDiff, false_and, if_false, true_and]
theorem K_beg_8 : K_beg C kind a 8 i = if i = C 0 0 then -1 else C 8 i := by
  simp only [K_beg, q_up_app, Nat.reduceEqDiff, false_and, if_false, true_and]
theorem K_beg_9 : K_beg C kind a 9 i = if i = C 0 0 then a else C 9 i := by
  simp only [K_beg, q_up_app, Nat.reduceEqDiff, false_and, if_false, true_and]
theorem K_beg_10 : K_beg C kind a 10 i = if i = C 0 0 then C 0 0 + 1 else C 10 i := by
  simp only [K_beg, q_up_app, Nat.reduceEqDiff, false_and, if_false, true_and]
theorem K_beg_11 : K_beg C kind a 11 i = if i = C 0 0 then C 0 0 + 1 else C 11 i := by
  simp only [K_beg, q_up_app, Nat.reduceEqDiff, false_and, if_false, true_and]
theorem IVC_refl : IVC C C := ⟨fun _ _ _ => rfl, Int.le_refl _, Int.le_refl _, Int.le_refl _⟩
theorem IVC_trans (h1 : IVC C C') (h2 : IVC C' C'') : IVC C C'' := by
  obtain ⟨a1, a2, a3, a4⟩ := h1
  obtain ⟨b1, b2, b3, b4⟩ := h2
  refine ⟨fun j i h => ?_, by omega, by omega, by omega⟩
  rw [b1 j i (by unfold BEL at h ⊢; omega)]
  exact a1 j i h
theorem IVC_up (h : IVC C C') (hj : ¬ j = 0) (hn : ¬ BEL C j i) : IVC C (q_up C' j i x) := by
  obtain ⟨a1, a2, a3, a4⟩ := h
  refine ⟨fun j' i' h' => ?_, ?_, ?_, ?_⟩
  · rw [q_up_app, if_neg (by rintro ⟨rfl, rfl⟩; exact hn h')]
    exact a1 j' i' h'
  · rw [q_up_ne _ _ _ _ (by omega)]; exact a2
  · rw [q_up_ne _ _ _ _ (by omega)]; exact a3
  · rw [q_up_ne _ _ _ _ (by omega)]; exact a4
theorem IVC_beg : IVC C (K_beg C kind a) := by
  have h0 : K_beg C kind a 0 0 = C 0 0 + 1 := by rw [K_beg_0, if_pos rfl]
  have h1 : K_beg C kind a 0 1 = C 0 1 := by rw [K_beg_0, if_neg (by decide)]
  have h2 : K_beg C kind a 0 2 = C 0 2 := by rw [K_beg_0, if_neg (by decide)]
  refine ⟨fun j i h => ?_, by omega, by omega, by omega⟩
  unfold BEL at h
  by_cases hj : j = 1 ∨ 12 ≤ j
  · exact K_beg_ne hj
  · have hi : ¬ i = C 0 0 := by omega
    have hc : j = 2 ∨ j = 3 ∨ j = 4 ∨ j = 5 ∨ j = 6 ∨ j = 7 ∨ j = 8 ∨ j = 9 ∨ j = 10 ∨ j = 11 := by omega
    rcases hc with rfl | rfl | rfl | rfl | rfl | rfl | rfl | rfl | rfl | rfl <;> simp only [K_beg_0, K_beg_ne, K_beg_2, K_beg_3, K_beg_4, K_beg_5, K_beg_6, K_beg_7, K_beg_8, K_beg_9, K_beg_10, K_beg_11, if_neg hi]
theorem SRok_mono (h : ∀ j, 2 ≤ j → C' j s = C j s) {x : SR} (hx : SRok C s x) : SRok C' s x := by
  unfold SRok at *
  rw [h 2 (by decide), h 3 (by decide), h 4 (by decide), h 5 (by decide), h 6 (by decide), h 7 (by decide), h 8 (by decide), h 9 (by decide), h 10 (by decide), h 11 (by decide), h 17 (by decide), h 19 (by decide), h 22 (by decide), h 20 (by decide), h 23 (by decide)]
  exact hx
/-- tables that were told stay told -/
theorem SOK_mono {C0 : St} {o : SO} (h : SOK C0 C o) (hi : IVC C C') (h0 : 0 ≤ C0 0 0) : TAB (SRok C') (C0 0 0) o.1 ∧ TAB (KRok C') (C0 0 1) o.2.1 ∧ TAB (LRok C') (C0 0 2) o.2.2 := by
  obtain ⟨a1, a2, a3, a4, a5, a6, a7⟩ := h
  refine ⟨TAB_mono _ _ (fun j x j1 j2 hx => ?_) a1, TAB_mono _ _ (fun j x j1 j2 hx => ?_) a2, TAB_mono _ _ (fun j x j1 j2 hx => ?_) a3⟩
  · unfold SRok at *
    simp only [hi.1 2 j (by unfold BEL; omega), hi.1 3 j (by unfold BEL; omega), hi.1 4 j (by unfold BEL; omega), hi.1 5 j (by unfold BEL; omega), hi.1 6 j (by unfold BEL; omega), hi.1 7 j (by unfold BEL; omega), hi.1 8 j (by unfold BEL; omega), hi.1 9 j (by unfold BEL; omega), hi.1 10 j (by unfold BEL; omega), hi.1 11 j (by unfold BEL; omega), hi.1 17 j (by unfold BEL; omega), hi.1 19 j (by unfold BEL; omega), hi.1 20 j (by unfold BEL; omega), hi.1 22 j (by unfold BEL; omega), hi.1 23 j (by unfold BEL; omega)]
    exact hx
  · unfold KRok at *
    simp only [hi.1 12 j (by unfold BEL; omega), hi.1 13 j (by unfold BEL; omega), hi.1 14 j (by unfold BEL; omega)]
    exact hx
  · unfold LRok at *
    rw [hi.1 15 j (by unfold BEL; omega)]
    exact hx
theorem SOK_seq {C0 C1 C2 : St} {g : Int → Int → Int → SO} {gs : List (Int → Int → Int → SO)} (h0 : 0 ≤ C0 0 0) (h1 : SOK C0 C1 (g (C0 0 0) (C0 0 1) (C0 0 2))) (h2 : SOK C1 C2 (s_seq gs (C1 0 0) (C1 0 1) (C1 0 2))) : SOK C0 C2 (s_seq (g :: gs) (C0 0 0) (C0 0 1) (C0 0 2)) := by
  obtain ⟨m1, m2, m3⟩ := SOK_mono h1 h2.2.2.2.2.2.2 h0
  obtain ⟨a1, a2, a3, a4, a5, a6, a7⟩ := h1
  obtain ⟨b1, b2, b3, b4, b5, b6, b7⟩ := h2
  rw [a4, a5, a6] at b1 b2 b3 b4 b5 b6
  unfold SOK
  rw [s_seq]
  dsimp only
  refine ⟨(TAB_app _ _ _).mpr ⟨m1, b1⟩, (TAB_app _ _ _).mpr ⟨m2, b2⟩, (TAB_app _ _ _).mpr ⟨m3, b3⟩, ?_, ?_, ?_, IVC_trans a7 b7⟩
  · rw [List.length_append]; omega
  · rw [List.length_append]; omega
  · rw [List.length_append]; omega
end KBG