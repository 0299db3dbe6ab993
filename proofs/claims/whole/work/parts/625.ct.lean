/-! the class' constructor -/
def sg_0 : St := fun _ _ => 0
def sg_A : St := l_c2 0 sg_0 l_A
theorem l_c2_hi {N0 a : Nat} {σ1 : St} {l : List LC} {i : Int} (h : N0 ≤ a) : l_c2 N0 σ1 l a i = l_s l a i := by
  unfold l_c2
  rw [if_neg (by omega)]
theorem l_c2_lo {N0 a : Nat} {σ1 : St} {l : List LC} {i : Int} (h : a < N0) : l_c2 N0 σ1 l a i = σ1 a i := by
  unfold l_c2
  rw [if_pos h]
theorem l_s_0 {a t n : Nat} {l : List LC} {i : Int} (h : l[a]? = some (.inl (t, n, []))) : l_s l a i = 0 := by
  unfold l_s
  rw [h]
  show l_cs (.inl (t, n, [])) i = 0
  unfold l_cs
  by_cases e : i < 0
  · rw [if_pos e]
  · rw [if_neg e]
    rfl
theorem l_nil {b0 : PH} : l_hb 0 b0 [] = pm_h0 := by
  funext a
  unfold l_hb
  rw [if_neg (Nat.not_lt_zero a)]
  rfl
theorem l_base {N : Nat} {σ1 : St} : q_eh N pm_h0 σ1 = l_hb N (q_eh N pm_h0 σ1) (List.replicate N (.inr (0, []))) := by
  funext a
  unfold l_hb
  by_cases e : a < N
  · rw [if_pos e]
  · rw [if_neg e]
    unfold l_h q_eh
    rw [if_neg e, List.getElem?_eq_none (by rw [List.length_replicate]; omega)]
    rfl
theorem l_baseP {N : Nat} : l_P N (List.replicate N (.inr (0, []))) := by
  refine ⟨by rw [List.length_replicate]; exact Nat.le_refl _, fun a ha => ?_⟩
  rw [List.getElem?_replicate, if_pos ha]
theorem sg_0S : q_S 0 sg_0 := ⟨fun _ _ => by show q_R 0; decide, fun a _ _ h => absurd h (Nat.not_lt_zero a)⟩
abbrev pl_0 : Int → Int := fun _ => -1
abbrev z_0 : Int → Int := fun _ => 0
theorem ct_93 {sc : Nat × (Nat → Int32)} {Q : PP} (kk : ∀ r', CI 88 (COD 88 sg_A) r' 0 [] pl_0 0 z_0 (-1) z_0 z_0 → q_S 136 (NS 88 (COD 88 sg_A) r') → Q (.inl none) (136, true) (q_eh 136 pm_h0 (NS 88 (COD 88 sg_A) r'))) : px sc 831 93 0 [.ref 0] [] (0, 0) (([.inr (14, l_df 14)] : List LC).length, true) (l_hb 0 (q_eh 0 pm_h0 sg_0) [.inr (14, l_df 14)]) Q := by
  refine l_run (D := 825) 300 203 5 93 0 [vr 0] [] (0, 0) [.inr (14, l_df 14)] 203 [vr 0] [vr 0] (135, 10318) l_A Q l_93_is ⟨Nat.zero_le _, fun a h => absurd h (Nat.not_lt_zero a)⟩ (fun _ => ?_)
  rw [(l_okl_a l_A_ok).1, l_bridge l_A_ok (by decide)]
  refine px_q (ls := [vr 0]) (st := [vr 0]) q_cl136 ?_ ?_ (l_bridgeS l_A_ok (by decide) (by decide) sg_0S) ?_
  · intro v hv
    rw [List.mem_singleton.mp hv]
    exact Or.inl (by decide)
  · intro v hv
    rw [List.mem_singleton.mp hv]
    exact Or.inl (by decide)
  show qx sc (830 + 1) 93 203 [vr 0] [vr 0] (135, 10318) true sg_A _
  refine (r_callv (idx := 101) (y' := 95) (n := 0) (m := 1) (a := 0) (as := []) (st' := []) (ls' := [vr 0]) (u' := (135, 10318)) (p3 := 206) (by decide +kernel) rfl (by decide) ⟨by decide, by decide, rfl⟩ rfl).mpr ?_
  have h66 : sg_A 66 5 = 0 := by decide +kernel
  have h67 : ∀ w, sg_A 67 w = 0 := fun w => (l_c2_hi (by decide)).trans (l_s_0 (t := 0) (n := 240) rfl)
  have h2 : ∀ w, sg_A 2 w = 0 := fun w => (l_c2_hi (by decide)).trans (l_s_0 (t := 0) (n := 3) rfl)
  have h3 : ∀ w, sg_A 3 w = 0 := fun w => (l_c2_hi (by decide)).trans (l_s_0 (t := 0) (n := 3) rfl)
  have hP : PRG 88 sg_A pl_0 [] 0 := ⟨trivial, trivial, trivial, by decide +kernel, by decide +kernel, by decide +kernel, fun i hi => by rcases hi with rfl | rfl | rfl <;> decide +kernel, by decide +kernel, by decide, by decide +kernel, by decide +kernel⟩
  refine n95 (D := 815) (c := 88) (Or.inl rfl) (by decide +kernel) hP trivial (fun k _ => ⟨show (-1 : Int) ≤ -1 by decide, show (-1 : Int) ≤ 20 by decide⟩) (fun r' u1 u2 u3 u4 => ?_)
  rw [q_kn_n]
  refine (r_retV (by decide +kernel)).mpr ?_
  intro hS
  refine kk r' ⟨Or.inl rfl, trivial, u1, ⟨?_, ?_⟩, ⟨?_, fun w w0 w1 => ?_⟩, fun k k0 k1 => Or.inl (u4 k k0 ?_), ⟨?_, by decide, by decide, fun i i0 i1 => absurd i1 (by omega)⟩, ?_, fun d d0 d1 => ?_⟩ hS
  · rw [u2 0 11 (by decide)]; decide +kernel
  · rw [u2 0 12 (by decide)]; decide +kernel
  · rw [u3, h66]; decide
  · rw [u3, h66, u2 67 w (by omega), h67]; decide
  · have : nK [] = 0 := rfl
    omega
  · rw [u2 0 13 (by decide)]; decide +kernel
  · rw [u2 0 14 (by decide)]; decide +kernel
  · rw [u2 2 d (by decide), u2 3 d (by decide), h2, h3]
    exact ⟨⟨rfl, rfl⟩, show (-99 : Int) ≤ 0 ∧ (0 : Int) ≤ 99 by decide, show (0 : Int) ≤ 0 ∧ (0 : Int) ≤ 40 by decide⟩
