/-! what is known at a place of a run -/
/-- a version is looked at: its bounds hold, it is what was made last, and so is what it stands for -/
def IWX (G : GT) (pl : Int → Int) (V : Nat) (ln : Int → Int) (σ : St) (w x : Int) : Prop := SBD G pl V ln w (σ 78 x) ∧ σ 80 w = σ 78 x ∧ σ 80 (RT G w).1 + (RT G w).2 = σ 78 x
def INV (G : GT) (pl : Int → Int) (V : Nat) (ln : Int → Int) (now : Int → Int) (σ : St) : Prop := ∀ x, 0 ≤ x → x ≤ 7 → IWX G pl V ln σ (now x) x
def HLD (k a b : Int) : Prop := (k = 0 ∧ a < b) ∨ (k = 1 ∧ a ≤ b) ∨ (k = 2 ∧ a = b)
section IVA
variable {G : GT} {pl ln : Int → Int} {V S K Ln : Nat} {w x y v : Int} {now one other : Int → Int} {σ σ' : St} {t : TT} {set s sv0 sv1 how : Int}
theorem IWX_fr (hp : PRO G pl V S K Ln) (w0 : 0 ≤ w) (w1 : w < V) (h : IWX G pl V ln σ w x) (h78 : σ' 78 x = σ 78 x) (h80 : ∀ j, 0 ≤ j → j ≤ w → σ' 80 j = σ 80 j) : IWX G pl V ln σ' w x := by
  obtain ⟨h1, h2, h3⟩ := h
  have hR := RT_b hp.1 hp.2.1.2.1 (w.toNat + 1) w (by omega) w0 w1
  refine ⟨by rw [h78]; exact h1, ?_, ?_⟩
  · rw [h80 w w0 (Int.le_refl _), h78]; exact h2
  · rw [h80 _ hR.1 hR.2.1, h78]; exact h3
theorem IWX_new (hp : PRO G pl V S K Ln) (w0 : 0 ≤ w) (w1 : w < V) (hS : SBD G pl V ln w (σ' 78 x)) (h80 : σ' 80 w = σ' 78 x) (hf : v_fol (gV G w) → σ' 80 (RT G (gV G w).1.2.2.2.1).1 + (RT G (gV G w).1.2.2.2.1).2 + (gV G w).2.2.1 = σ' 78 x) : IWX G pl V ln σ' w x := by
  refine ⟨hS, h80, ?_⟩
  rw [RT_eq hp.1 hp.2.1.2.1 w0 w1]
  by_cases hv : v_fol (gV G w)
  · rw [if_pos hv]
    dsimp only
    have := hf hv
    omega
  · rw [if_neg hv]
    dsimp only
    omega
theorem un_at (i0 : 0 ≤ y) (i1 : y ≤ 7) : un now x w y = if y = x then w else now y := by
  unfold un nz p_up
  rw [if_pos ⟨i0, i1⟩]
theorem INV_un (hp : PRO G pl V S K Ln) (h : INV G pl V ln now σ) (hN : NWI now w) (w1 : w < V) (h80 : ∀ j, 0 ≤ j → j < w → σ' 80 j = σ 80 j) (h78 : ∀ i, 0 ≤ i → i ≤ 7 → ¬ i = x → σ' 78 i = σ 78 i) (hw : IWX G pl V ln σ' w x) : INV G pl V ln (un now x w) σ' := by
  intro i i0 i1
  rw [un_at i0 i1]
  have hn := hN i i0 i1
  by_cases e : i = x
  · rw [if_pos e, e]; exact hw
  · rw [if_neg e]
    exact IWX_fr hp hn.1 (by omega) (h i i0 i1) (h78 i i0 i1 e) (fun j j0 j1 => h80 j j0 (by omega))
/-- what an answer tells -/
theorem TRM {a b : Int} {w : Int} (hT : t.1 = 0 ∨ t.1 = 1 ∨ t.1 = 2) (hh : (how = 3 ∧ HLD t.1 a b) ∨ (how = 4 ∧ ¬ HLD t.1 a b)) (hw : w = 0 ∨ w = 1) (hO : ∀ sh, TVL G pl V ln ((if w = 0 then t.2.2.1 else t.2.1.1), (if (if w = 0 then t.2.2.1 else t.2.1.1) = 3 then (if w = 0 then sv1 else sv0) else (if w = 0 then t.2.2.2 else t.2.1.2)), sh) (if w = 0 then b else a)) :
    ((v_term t sv0 sv1 how w).1.1 = 0 ∨ ∃ z, TVL G pl V ln (v_term t sv0 sv1 how w).1 z ∧ (if w = 0 then a else b) ≤ z + (v_term t sv0 sv1 how w).1.2.2) ∧ ((v_term t sv0 sv1 how w).2.1 = 0 ∨ ∃ z, TVL G pl V ln (v_term t sv0 sv1 how w).2 z ∧ z - (v_term t sv0 sv1 how w).2.2.2 ≤ (if w = 0 then a else b)) := by
  unfold v_term
  dsimp only
  generalize (if (if w = 0 then t.2.2.1 else t.2.1.1) = 3 then (if w = 0 then sv1 else sv0) else (if w = 0 then t.2.2.2 else t.2.1.2)) = on at *
  generalize (if w = 0 then t.2.2.1 else t.2.1.1) = ok at *
  unfold HLD at hh
  by_cases e2 : t.1 = 2
  · rw [if_pos e2]
    rcases hh with ⟨e, h⟩ | ⟨e, h⟩
    · rw [if_pos e]
      exact ⟨Or.inr ⟨_, hO 0, by dsimp only; split <;> omega⟩, Or.inr ⟨_, hO 0, by dsimp only; split <;> omega⟩⟩
    · rw [if_neg (by omega)]
      exact ⟨Or.inl rfl, Or.inl rfl⟩
  · rw [if_neg e2]
    by_cases e3 : (how = 3 ∧ w = 0) ∨ (¬ how = 3 ∧ ¬ w = 0)
    · rw [if_pos e3]
      refine ⟨Or.inr ⟨_, hO _, ?_⟩, Or.inl rfl⟩
      dsimp only
      rcases hw with rfl | rfl
      · rw [if_pos rfl, if_pos rfl]; split <;> omega
      · simp only [Int.reduceEq, if_false]; split <;> omega
    · rw [if_neg e3]
      refine ⟨Or.inl rfl, Or.inr ⟨_, hO _, ?_⟩⟩
      dsimp only
      rcases hw with rfl | rfl
      · rw [if_pos rfl, if_pos rfl]; split <;> omega
      · simp only [Int.reduceEq, if_false]; split <;> omega
theorem R_h_HLD (hT : t.1 = 0 ∨ t.1 = 1 ∨ t.1 = 2) : R_h t σ = true ↔ HLD t.1 (R_sd t.2.1 σ) (R_sd t.2.2 σ) := by
  unfold R_h HLD
  rcases hT with e | e | e <;> rw [e] <;> simp
theorem R_mk_78 {m : Int} {i : Int} : R_mk G v m σ 78 i = σ 78 i := q_upf_ne _ _ _ (by decide)
theorem R_mk_ne {m : Int} {a : Nat} {i : Int} (h : ¬ a = 80) : R_mk G v m σ a i = σ a i := q_upf_ne _ _ _ h
theorem R_mk_80 {m j : Int} : R_mk G v m σ 80 j = if v ≤ j ∧ j < v + m then σ 78 (gV G j).1.1 else σ 80 j := q_upf_eq _ _ _ _
theorem R_mk_lt {m j : Int} (h : j < v) : R_mk G v m σ 80 j = σ 80 j := by rw [R_mk_80, if_neg (by omega)]
theorem R_sd_TVL (hI : INV G pl V ln now σ) (h85 : ∀ b, 0 ≤ b → b ≤ 2 → σ 85 b = ln b) {q : Int × Int} (hq : VALs pl q) (sh : Int) : TVL G pl V ln (q.1, (if q.1 = 3 then v_sv now q else q.2), sh) (R_sd q σ) := by
  unfold R_sd
  rcases hq with ⟨h1, h2, h3⟩ | ⟨h1, h2, h3, h4⟩ | ⟨h1, h2, h3⟩
  · rw [h1]; exact Or.inl ⟨rfl, rfl⟩
  · rw [h1]
    refine Or.inr (Or.inl ⟨rfl, ?_, h2, h3, h4⟩)
    exact h85 _ h2 h3
  · have e : v_sv now q = now q.2 := by unfold v_sv; rw [if_pos h1]
    rw [h1, e]
    exact Or.inr (Or.inr ⟨rfl, (hI _ h2 h3).1⟩)
/-- the versions of the sides, behind an answer -/
theorem INV_sn (hp : PRO G pl V S K Ln) (hL : LNO pl ln) (hI : INV G pl V ln now σ) (h85 : ∀ b, 0 ≤ b → b ≤ 2 → σ 85 b = ln b) (ht : VALt pl t) (hN : NWI now v) (hv : v ≤ w) (hw0 : 0 ≤ w) (hI2 : IS (gV G) w (v_sd t (v_sv now t.2.1) (v_sv now t.2.2) how s)) (hw1 : w + (v_sd t (v_sv now t.2.1) (v_sv now t.2.2) how s).length ≤ V) (hh : (how = 3 ∧ R_h t σ = true) ∨ (how = 4 ∧ ¬ R_h t σ = true)) :
    INV G pl V ln (v_sn t w now) (R_mk G w (v_sd t (v_sv now t.2.1) (v_sv now t.2.2) how s).length σ) := by
  have hNw := NWI_up hN hv
  have ht' := ht
  obtain ⟨hT, hl, hr⟩ := ht
  rw [R_h_HLD hT] at hh
  have hho : how = 3 ∨ how = 4 := by rcases hh with h | h <;> omega
  generalize hn : ((v_sd t (v_sv now t.2.1) (v_sv now t.2.2) how s).length : Int) = n at *
  rw [v_sd_n] at hn
  -- one side
  have side : ∀ (j xx wd : Int) (q : Int × Int), w ≤ j → j < w + n → wd = 0 ∨ wd = 1 → q = (if wd = 0 then t.2.1 else t.2.2) → q.1 = 3 → xx = q.2 → gV G j = ((xx, how, s, now xx, -1), (0, -1, 0), (0, v_term t (v_sv now t.2.1) (v_sv now t.2.2) how wd)) → IWX G pl V ln (R_mk G w n σ) j xx := by
    intro j xx wd q j0 j1 hwd eq q3 ex hg
    have hx : 0 ≤ xx ∧ xx ≤ 7 := by
      have hq : VALs pl q := by rw [eq]; split; exact hl; exact hr
      unfold VALs at hq
      omega
    have hix := hI xx hx.1 hx.2
    have hnx := hNw xx hx.1 hx.2
    have hy : R_sd q σ = σ 78 xx := by unfold R_sd; rw [if_pos q3, ex]
    refine IWX_new hp (by omega) (by omega) ?_ ?_ ?_
    · rw [R_mk_78]
      refine SB_n hp hL (by omega) (by omega) (by unfold v_meet; rw [hg]; dsimp only; omega) (Or.inr ⟨σ 78 xx, ?_, ?_⟩) ?_ ?_
      · rw [hg]; exact hix.1
      · rw [hg]; dsimp only; omega
      all_goals
        have hO : ∀ sh, TVL G pl V ln ((if wd = 0 then t.2.2.1 else t.2.1.1), (if (if wd = 0 then t.2.2.1 else t.2.1.1) = 3 then (if wd = 0 then v_sv now t.2.2 else v_sv now t.2.1) else (if wd = 0 then t.2.2.2 else t.2.1.2)), sh) (if wd = 0 then R_sd t.2.2 σ else R_sd t.2.1 σ) := by
          intro sh
          rcases hwd with rfl | rfl
          · exact R_sd_TVL hI h85 hr sh
          · exact R_sd_TVL hI h85 hl sh
        have hy2 : (if wd = 0 then R_sd t.2.1 σ else R_sd t.2.2 σ) = σ 78 xx := by
          rw [← hy, eq]
          split <;> rfl
        have tr := TRM (sv0 := v_sv now t.2.1) (sv1 := v_sv now t.2.2) hT hh hwd hO
        rw [hy2] at tr
        rw [hg]
      · exact tr.1
      · exact tr.2
    · rw [R_mk_78, R_mk_80, if_pos ⟨j0, j1⟩, hg]
    · intro _
      rw [R_mk_78, hg]
      dsimp only
      have hR := RT_b hp.1 hp.2.1.2.1 ((now xx).toNat + 1) (now xx) (by omega) hnx.1 (by omega)
      rw [R_mk_lt (by omega)]
      have := hix.2.2
      omega
  -- the others
  have other : ∀ i, 0 ≤ i → i ≤ 7 → IWX G pl V ln (R_mk G w n σ) (now i) i := fun i i0 i1 => by
    have hni := hNw i i0 i1
    exact IWX_fr hp hni.1 (by omega) (hI i i0 i1) R_mk_78 (fun j j0 j1 => R_mk_lt (by omega))
  unfold v_sd at hI2
  rw [IS_app] at hI2
  obtain ⟨hI0, hI1⟩ := hI2
  intro i i0 i1
  unfold v_sn v_n1 v_n0
  by_cases a : v_own0 t
  · have e0 : v_s0 t (v_sv now t.2.1) (v_sv now t.2.2) how s = [((t.2.1.2, how, s, v_sv now t.2.1, -1), (0, -1, 0), (0, v_term t (v_sv now t.2.1) (v_sv now t.2.2) how 0))] := by unfold v_s0; rw [if_pos a]
    rw [e0] at hI0 hI1
    rw [if_pos a] at hn
    have es : v_sv now t.2.1 = now t.2.1.2 := by unfold v_sv; rw [if_pos a.1]
    have g0 : gV G w = ((t.2.1.2, how, s, now t.2.1.2, -1), (0, -1, 0), (0, v_term t (v_sv now t.2.1) (v_sv now t.2.2) how 0)) := by rw [hI0.1, es]
    have hn1 : 1 ≤ n := by split at hn <;> omega
    have s0 := side w t.2.1.2 0 t.2.1 (Int.le_refl _) (by omega) (Or.inl rfl) rfl a.1 rfl g0
    rw [if_pos a, if_pos a]
    by_cases b : v_own1 t
    · have e1 : v_s1 t (v_sv now t.2.1) (v_sv now t.2.2) how s = [((t.2.2.2, how, s, v_sv now t.2.2, -1), (0, -1, 0), (0, v_term t (v_sv now t.2.1) (v_sv now t.2.2) how 1))] := by unfold v_s1; rw [if_pos b]
      rw [e1] at hI1
      rw [if_pos b] at hn
      have es1 : v_sv now t.2.2 = now t.2.2.2 := by unfold v_sv; rw [if_pos b.1]
      have g1 : gV G (w + 1) = ((t.2.2.2, how, s, now t.2.2.2, -1), (0, -1, 0), (0, v_term t (v_sv now t.2.1) (v_sv now t.2.2) how 1)) := by
        have : gV G (w + 1) = _ := hI1.1
        rw [this, es1]
      have s1 := side (w + 1) t.2.2.2 1 t.2.2 (by omega) (by omega) (Or.inr rfl) rfl b.1 rfl g1
      rw [if_pos b, un_at i0 i1, un_at i0 i1]
      by_cases q1 : i = t.2.2.2
      · rw [if_pos q1, q1]; exact s1
      · rw [if_neg q1]
        by_cases q0 : i = t.2.1.2
        · rw [if_pos q0, q0]; exact s0
        · rw [if_neg q0]; exact other i i0 i1
    · rw [if_neg b, un_at i0 i1]
      by_cases q0 : i = t.2.1.2
      · rw [if_pos q0, q0]; exact s0
      · rw [if_neg q0]; exact other i i0 i1
  · have e0 : v_s0 t (v_sv now t.2.1) (v_sv now t.2.2) how s = [] := by unfold v_s0; rw [if_neg a]
    rw [e0] at hI1
    rw [if_neg a] at hn
    rw [if_neg a, if_neg a]
    by_cases b : v_own1 t
    · have e1 : v_s1 t (v_sv now t.2.1) (v_sv now t.2.2) how s = [((t.2.2.2, how, s, v_sv now t.2.2, -1), (0, -1, 0), (0, v_term t (v_sv now t.2.1) (v_sv now t.2.2) how 1))] := by unfold v_s1; rw [if_pos b]
      rw [e1] at hI1
      rw [if_pos b] at hn
      have es1 : v_sv now t.2.2 = now t.2.2.2 := by unfold v_sv; rw [if_pos b.1]
      have g1 : gV G (w + 0) = ((t.2.2.2, how, s, now t.2.2.2, -1), (0, -1, 0), (0, v_term t (v_sv now t.2.1) (v_sv now t.2.2) how 1)) := by
        have : gV G (w + 0) = _ := hI1.1
        rw [this, es1]
      have s1 := side (w + 0) t.2.2.2 1 t.2.2 (by omega) (by omega) (Or.inr rfl) rfl b.1 rfl g1
      rw [if_pos b, un_at i0 i1]
      by_cases q1 : i = t.2.2.2
      · rw [if_pos q1, q1]; exact s1
      · rw [if_neg q1]; exact other i i0 i1
    · rw [if_neg b]; exact other i i0 i1
theorem v_now_at {set : Int} : ∀ (n : Nat) (x w : Int) (now : Int → Int), 0 ≤ x → x + n ≤ 8 → ∀ i, 0 ≤ i → i ≤ 7 → (x ≤ i → i < x + n → ¬ q_bit set i = 0 → w ≤ v_now set n x w now i ∧ v_now set n x w now i < w + (v_many set n x : Nat)) ∧ ((i < x ∨ x + n ≤ i ∨ q_bit set i = 0) → v_now set n x w now i = now i) := by
  intro n
  induction n with
  | zero =>
    intro x w now x0 x1 i i0 i1
    exact ⟨fun h1 h2 => by omega, fun _ => rfl⟩
  | succ n ih =>
    intro x w now x0 x1 i i0 i1
    rw [v_now, v_many]
    by_cases b : q_bit set x = 0
    · rw [if_pos b, if_pos b]
      obtain ⟨h1, h2⟩ := ih (x + 1) w now (by omega) (by omega) i i0 i1
      refine ⟨fun a1 a2 a3 => h1 ?_ (by omega) a3, fun a => h2 ?_⟩
      · have : ¬ i = x := fun q => a3 (by rw [q]; exact b)
        omega
      · by_cases q : i = x
        · left; omega
        · omega
    · rw [if_neg b, if_neg b]
      obtain ⟨h1, h2⟩ := ih (x + 1) (w + 1) (un now x w) (by omega) (by omega) i i0 i1
      refine ⟨fun a1 a2 a3 => ?_, fun a => ?_⟩
      · by_cases q : i = x
        · rw [h2 (Or.inl (by omega)), un_at i0 i1, if_pos q]
          omega
        · have := h1 (by omega) (by omega) a3
          omega
      · have q : ¬ i = x := by
          intro q
          rcases a with a | a | a
          · omega
          · omega
          · exact b (by rw [← q]; exact a)
        rw [h2 (by omega), un_at i0 i1, if_neg q]
theorem INV_now (hNV : NWV G (v_now set 8 0 w now)) (rows : ∀ i, w ≤ i → i < w + (v_many set 8 0 : Nat) → IWX G pl V ln σ i (gV G i).1.1) (base : ∀ x, 0 ≤ x → x ≤ 7 → q_bit set x = 0 → IWX G pl V ln σ (now x) x) : INV G pl V ln (v_now set 8 0 w now) σ := by
  intro x x0 x1
  obtain ⟨h1, h2⟩ := v_now_at (set := set) 8 0 w now (by decide) (by decide) x x0 x1
  by_cases b : q_bit set x = 0
  · rw [h2 (Or.inr (Or.inr b))]; exact base x x0 x1 b
  · obtain ⟨a1, a2⟩ := h1 x0 (by omega) b
    have := rows _ a1 a2
    rw [hNV x x0 x1] at this
    exact this
/-- JOINED ones -/
theorem INV_join (hp : PRO G pl V S K Ln) (hI : IS (gV G) w (v_join set one other s 8 0)) (hw0 : 0 ≤ w) (hw1 : w + (v_many set 8 0 : Nat) ≤ V) (hNV : NWV G now) (hA : INV G pl V ln one σ ∨ INV G pl V ln other σ) (base : ∀ x, 0 ≤ x → x ≤ 7 → q_bit set x = 0 → IWX G pl V ln σ (now x) x) (hN : NWI now w) : INV G pl V ln (v_now set 8 0 w now) (R_mk G w (v_many set 8 0 : Nat) σ) := by
  refine INV_now (NWV_join 8 0 w now (by decide) (by decide) hNV hI) (fun i i0 i1 => ?_) (fun x x0 x1 b => ?_)
  · obtain ⟨z, z0, z1, hg, -⟩ := v_join_at 8 0 w (by decide) (by decide) hI i i0 i1
    have e1 : (gV G i).1.1 = z := by rw [hg]; rfl
    rw [e1]
    refine IWX_new hp (by omega) (by omega) ?_ ?_ ?_
    · rw [R_mk_78]
      refine SB_m hp (by omega) (by omega) (by rw [hg]; exact Or.inl rfl) ?_
      rw [hg]
      rcases hA with hA | hA
      · exact Or.inl (hA z z0 z1).1
      · exact Or.inr (hA z z0 z1).1
    · rw [R_mk_78, R_mk_80, if_pos ⟨i0, i1⟩, e1]
    · intro q
      rw [hg] at q
      unfold v_fol v_mk at q
      dsimp only at q
      omega
  · have hn := hN x x0 x1
    exact IWX_fr hp hn.1 (by omega) (base x x0 x1 b) R_mk_78 (fun j j0 j1 => R_mk_lt (by omega))
/-- ROUND ones -/
theorem INV_round (hp : PRO G pl V S K Ln) (hI : IS (gV G) w (v_round set one other s 8 0)) (hw0 : 0 ≤ w) (hw1 : w + (v_many set 8 0 : Nat) ≤ V) (hNV : NWV G now) (hA : INV G pl V ln one σ ∨ INV G pl V ln other σ) (base : ∀ x, 0 ≤ x → x ≤ 7 → q_bit set x = 0 → IWX G pl V ln σ (now x) x) (hN : NWI now w) : INV G pl V ln (v_now set 8 0 w now) (R_mk G w (v_many set 8 0 : Nat) σ) := by
  refine INV_now (NWV_round 8 0 w now (by decide) (by decide) hNV hI) (fun i i0 i1 => ?_) (fun x x0 x1 b => ?_)
  · obtain ⟨z, z0, z1, hg, -⟩ := v_round_at 8 0 w (by decide) (by decide) hI i i0 i1
    have e1 : (gV G i).1.1 = z := by rw [hg]; rfl
    rw [e1]
    refine IWX_new hp (by omega) (by omega) ?_ ?_ ?_
    · rw [R_mk_78]
      refine SB_m hp (by omega) (by omega) (by rw [hg]; exact Or.inr rfl) ?_
      rw [hg]
      rcases hA with hA | hA
      · exact Or.inl (hA z z0 z1).1
      · exact Or.inr (hA z z0 z1).1
    · rw [R_mk_78, R_mk_80, if_pos ⟨i0, i1⟩, e1]
    · intro q
      rw [hg] at q
      unfold v_fol v_mk at q
      dsimp only at q
      omega
  · have hn := hN x x0 x1
    exact IWX_fr hp hn.1 (by omega) (base x x0 x1 b) R_mk_78 (fun j j0 j1 => R_mk_lt (by omega))
end IVA
