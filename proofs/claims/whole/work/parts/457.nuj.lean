section NUH
variable {C r r' r1 r2 : St} {i v s k v' s' k' x n fr how ar ck too pls root shift rel ok on w sv0 sv1 z q' : Int} {dep a : Nat} {o o' : NO} {now : Int → Int} {l : List NP} {cd : List CD} {t : TT} {up dn : Int × Int × Int}
def v_tm (rel how w ok on : Int) : (Int × Int × Int) × (Int × Int × Int) := if rel = 2 then (if how = 3 then ((ok, on, 0), (ok, on, 0)) else (t0, t0)) else if (how = 3 ∧ w = 0) ∨ (¬ how = 3 ∧ ¬ w = 0) then ((ok, on, v_st rel how), t0) else (t0, (ok, on, v_st rel how))
theorem v_tm_0 : v_term t sv0 sv1 how 0 = v_tm t.1 how 0 t.2.2.1 (if t.2.2.1 = 3 then sv1 else t.2.2.2) := rfl
theorem v_tm_1 : v_term t sv0 sv1 how 1 = v_tm t.1 how 1 t.2.1.1 (if t.2.1.1 = 3 then sv0 else t.2.1.2) := rfl
theorem RAW_ts (h : RAW r v x how s fr too pls t0 t0 root shift) {h' : Int} : RAW (C_ts r v rel h' w ok on) v x how s fr too pls (v_tm rel h' w ok on).1 (v_tm rel h' w ok on).2 root shift := by
  unfold C_ts v_tm
  split
  · split
    · exact RAW_t1 (RAW_t0 h)
    · exact h
  · split
    · exact RAW_t0 h
    · exact RAW_t1 h
/-- what the Code and the makings say of a test -/
def TSC (C r : St) (s : Int) (t : TT) (sv0 sv1 : Int) : Prop := C 17 s = t.1 ∧ (C 19 s = t.2.1.1 ∧ C 22 s = t.2.1.2) ∧ (C 20 s = t.2.2.1 ∧ C 23 s = t.2.2.2) ∧ r 37 s = sv0 ∧ r 38 s = sv1
theorem VOC_s0 (h : INN r v) (ht : TSC C r s t sv0 sv1) (hh : how = 3 ∨ how = 4) (f1 : 0 ≤ sv0) (f2 : sv0 < v) : VOC r (C_s0 C r v s how) v q' k dep (un (nz (r 40)) t.2.1.2 v, [((t.2.1.2, how, s, sv0, -1), (0, -1, 0), (0, v_term t sv0 sv1 how 0))], [], [], l, cd) := by
  obtain ⟨e1, ⟨e2, e3⟩, ⟨e4, e5⟩, e6, e7⟩ := ht
  have q := RAW_ts (rel := C 17 s) (h' := how) (w := 0) (ok := C 20 s) (on := if C 20 s = 3 then r 38 s else C 23 s) (RAW_fol (ah := r 37 s) (n := 0) (RAW_add (r := r) (v := v) (x := C 22 s) (how := how) (s := s)) (by omega))
  have z16 : C_add r v (C 22 s) how s 16 (r 37 s) = r 16 (r 37 s) := C_add_ne (by omega) (by omega)
  have z17 : C_add r v (C 22 s) how s 17 (r 37 s) = r 17 (r 37 s) := C_add_ne (by omega) (by omega)
  rw [z16, z17] at q
  refine VOC_one h ?_ C_s0_9 (fun i => ?_) trivial trivial (fun a i n1 n2 n3 n4 n5 => C_s0_ne (by omega) n2 (by omega)) ?_
  · unfold VRokC
    have hf : v_fol ((t.2.1.2, how, s, sv0, -1), (0, -1, 0), (0, v_term t sv0 sv1 how 0)) := by unfold v_fol; dsimp only; omega
    rw [if_pos hf, if_pos hf]
    dsimp only
    refine ⟨?_, fun _ => ⟨f1, f2⟩⟩
    rw [C_s0_ne (by omega) (by omega) (by omega), C_s0_ne (by omega) (by omega) (by omega), v_tm_0]
    refine RAW_of (r := C_ts (C_fol (C_add r v (C 22 s) how s) v (r 37 s) 0) v (C 17 s) how 0 (C 20 s) (if C 20 s = 3 then r 38 s else C 23 s)) ?_ (fun a ha => ?_)
    · rw [e6] at q ⊢
      rw [e1, e3, e4, e5, e7] at q ⊢
      exact q
    · unfold C_s0
      rw [q_up_ne _ _ _ _ (by omega)]
  · by_cases hi : i = t.2.1.2
    · rw [if_pos hi, hi]; unfold C_s0; rw [e3, q_up_eq]
    · rw [if_neg hi, C_s0_ne (by omega) (by omega) (by omega)]
  · intro _; dsimp only; omega
theorem VOC_s1 (h : INN r v) (ht : TSC C r s t sv0 sv1) (hh : how = 3 ∨ how = 4) (f1 : 0 ≤ sv1) (f2 : sv1 < v) : VOC r (C_s1 C r v s how) v q' k dep (un (nz (r 40)) t.2.2.2 v, [((t.2.2.2, how, s, sv1, -1), (0, -1, 0), (0, v_term t sv0 sv1 how 1))], [], [], l, cd) := by
  obtain ⟨e1, ⟨e2, e3⟩, ⟨e4, e5⟩, e6, e7⟩ := ht
  have q := RAW_ts (rel := C 17 s) (h' := how) (w := 1) (ok := C 19 s) (on := if C 19 s = 3 then r 37 s else C 22 s) (RAW_fol (ah := r 38 s) (n := 0) (RAW_add (r := r) (v := v) (x := C 23 s) (how := how) (s := s)) (by omega))
  have z16 : C_add r v (C 23 s) how s 16 (r 38 s) = r 16 (r 38 s) := C_add_ne (by omega) (by omega)
  have z17 : C_add r v (C 23 s) how s 17 (r 38 s) = r 17 (r 38 s) := C_add_ne (by omega) (by omega)
  rw [z16, z17] at q
  refine VOC_one h ?_ C_s1_9 (fun i => ?_) trivial trivial (fun a i n1 n2 n3 n4 n5 => C_s1_ne (by omega) n2 (by omega)) ?_
  · unfold VRokC
    have hf : v_fol ((t.2.2.2, how, s, sv1, -1), (0, -1, 0), (0, v_term t sv0 sv1 how 1)) := by unfold v_fol; dsimp only; omega
    rw [if_pos hf, if_pos hf]
    dsimp only
    refine ⟨?_, fun _ => ⟨f1, f2⟩⟩
    rw [C_s1_ne (by omega) (by omega) (by omega), C_s1_ne (by omega) (by omega) (by omega), v_tm_1]
    refine RAW_of (r := C_ts (C_fol (C_add r v (C 23 s) how s) v (r 38 s) 0) v (C 17 s) how 1 (C 19 s) (if C 19 s = 3 then r 37 s else C 22 s)) ?_ (fun a ha => ?_)
    · rw [e7] at q ⊢
      rw [e1, e2, e3, e5, e6] at q ⊢
      exact q
    · unfold C_s1
      rw [q_up_ne _ _ _ _ (by omega)]
  · by_cases hi : i = t.2.2.2
    · rw [if_pos hi, hi]; unfold C_s1; rw [e5, q_up_eq]
    · rw [if_neg hi, C_s1_ne (by omega) (by omega) (by omega)]
  · intro _; dsimp only; omega
/-- a row of the makings is written -/
theorem VOC_row {V : List VR} {K : List NC} (h : VOC r r' v s k dep (now, V, [], K, l, cd)) (ha : 30 ≤ a ∧ a ≤ 38) : VOC r (q_up r' a s z) v s k dep (now, V, [], K, l, cd) := by
  obtain ⟨a1, a2, a3, a4, a5, a6⟩ := h
  refine ⟨TABv_up a1 (fun b j hb _ => q_up_ne _ _ _ _ (by omega)), trivial, TABc_up a3 (fun b j hb _ _ => q_up_ne _ _ _ _ (by omega)), ?_, fun b j hb => ?_, ?_⟩
  · rw [show q_up r' a s z 40 = r' 40 from funext fun j => q_up_ne _ _ _ _ (by omega)]; exact a4
  · rw [← a5 b j hb]
    unfold q_up
    rw [if_neg]
    unfold NBl at hb
    omega
  · obtain ⟨b1, b2, b3, b4⟩ := a6
    refine ⟨?_, b2, fun i i0 i1 => ?_, fun i i0 i1 => ?_⟩
    · rw [q_up_ne _ _ _ _ (by omega)]; exact b1
    · rw [q_up_ne _ _ _ _ (by omega)]; exact b3 i i0 i1
    · rw [q_up_ne _ _ _ _ (by omega)]; exact b4 i i0 i1
theorem C_mk_37 (ha : a = 37 ∨ a = 38) : C_m1 C (C_m0 C r s how) s how a s = r a s := by
  unfold C_m1 C_m0
  split <;> split
  · rw [C_s1_ne (by omega) (by omega) (by omega), C_s0_ne (by omega) (by omega) (by omega)]
  · rw [C_s1_ne (by omega) (by omega) (by omega)]
  · rw [C_s0_ne (by omega) (by omega) (by omega)]
  · rfl
theorem own0_iff (ht : TSC C r s t sv0 sv1) : C_o0 C s ↔ v_own0 t := by
  obtain ⟨e1, ⟨e2, e3⟩, ⟨e4, e5⟩, e6, e7⟩ := ht
  unfold C_o0 v_own0
  rw [e2, e3, e4, e5]
theorem own1_iff (ht : TSC C r s t sv0 sv1) : C_o1 C s ↔ v_own1 t := by
  obtain ⟨e1, ⟨e2, e3⟩, ⟨e4, e5⟩, e6, e7⟩ := ht
  unfold C_o1 v_own1
  rw [e2, e3, e4, e5]
theorem VOC_sd (h : INN r v) (ht : TSC C r s t sv0 sv1) (hh : how = 3 ∨ how = 4) (w0 : t.2.1.1 = 3 → 0 ≤ sv0 ∧ sv0 < v) (w1 : t.2.2.1 = 3 → 0 ≤ sv1 ∧ sv1 < v) : VOC r (C_m1 C (C_m0 C r s how) s how) v q' k dep (v_sn t v (nz (r 40)), v_sd t sv0 sv1 how s, [], [], [], []) := by
  have m0 : VOC r (C_m0 C r s how) v q' k dep (v_n0 t v (nz (r 40)), v_s0 t sv0 sv1 how s, [], [], [], []) := by
    unfold C_m0 v_n0 v_s0
    by_cases g : C_o0 C s
    · have g' := (own0_iff ht).mp g
      rw [if_pos g, if_pos g', if_pos g', h.1]
      exact VOC_s0 h ht hh (w0 g'.1).1 (w0 g'.1).2
    · have g' := fun q => g ((own0_iff ht).mpr q)
      rw [if_neg g, if_neg g', if_neg g']
      exact VOC_nil h
  have l0 : ((v_s0 t sv0 sv1 how s).length : Int) = if v_own0 t then 1 else 0 := by
    unfold v_s0
    split <;> rfl
  have i0 : INN (C_m0 C r s how) (v + (v_s0 t sv0 sv1 how s).length) := m0.2.2.2.2.2
  have ht0 : TSC C (C_m0 C r s how) s t sv0 sv1 := by
    obtain ⟨e1, e2, e3, e6, e7⟩ := ht
    refine ⟨e1, e2, e3, ?_, ?_⟩
    · unfold C_m0
      split
      · rw [C_s0_ne (by omega) (by omega) (by omega)]; exact e6
      · exact e6
    · unfold C_m0
      split
      · rw [C_s0_ne (by omega) (by omega) (by omega)]; exact e7
      · exact e7
  have m1 : VOC (C_m0 C r s how) (C_m1 C (C_m0 C r s how) s how) (v + (v_s0 t sv0 sv1 how s).length) q' k dep (v_n1 t (v + (v_s0 t sv0 sv1 how s).length) (nz (C_m0 C r s how 40)), v_s1 t sv0 sv1 how s, [], [], [], []) := by
    unfold C_m1 v_n1 v_s1
    by_cases g : C_o1 C s
    · have g' := (own1_iff ht).mp g
      rw [if_pos g, if_pos g', if_pos g', i0.1]
      exact VOC_s1 i0 ht0 hh (w1 g'.1).1 (by have := (w1 g'.1).2; omega)
    · have g' := fun q => g ((own1_iff ht).mpr q)
      rw [if_neg g, if_neg g', if_neg g']
      exact VOC_nil i0
  have e40 : nz (C_m0 C r s how 40) = v_n0 t v (nz (r 40)) := m0.2.2.2.1
  have := VOC_app m0 (by simpa using m1)
  rw [e40, l0] at this
  exact this
theorem v_sd_len : ((v_sd t sv0 sv1 how s).length : Int) = (if v_own0 t then 1 else 0) + (if v_own1 t then 1 else 0) := by
  unfold v_sd v_s0 v_s1
  split <;> split <;> rfl
theorem C_mk_ok (h : INN r v) (ht : TSC C r s t sv0 sv1) (hh : how = 3 ∨ how = 4) (w0 : t.2.1.1 = 3 → 0 ≤ sv0 ∧ sv0 < v) (w1 : t.2.2.1 = 3 → 0 ≤ sv1 ∧ sv1 < v) :
    VOC r (C_mk C r s how) v s k dep (v_sn t v (nz (r 40)), v_sd t sv0 sv1 how s, [], [], [], []) ∧ C_mk C r s how 35 s = (v_sd t sv0 sv1 how s).length ∧ C_mk C r s how 37 s = sv0 ∧ C_mk C r s how 38 s = sv1 ∧ (∀ a, 30 ≤ a ∧ a ≤ 34 → C_mk C r s how a s = r a s) := by
  have hv := VOC_sd (k := k) (q' := s) (dep := dep) h ht hh w0 w1
  have h9 : C_m1 C (C_m0 C r s how) s how 9 0 = v + (v_sd t sv0 sv1 how s).length := hv.2.2.2.2.2.1
  refine ⟨VOC_row hv (by omega), ?_, ?_, ?_, fun a ha => ?_⟩
  · unfold C_mk
    rw [q_up_eq, h9, h.1]
    omega
  · unfold C_mk
    rw [q_up_ne _ _ _ _ (by decide), C_mk_37 (Or.inl rfl), ht.2.2.2.1]
  · unfold C_mk
    rw [q_up_ne _ _ _ _ (by decide), C_mk_37 (Or.inr rfl), ht.2.2.2.2]
  · unfold C_mk
    rw [q_up_ne _ _ _ _ (by omega)]
    unfold C_m1 C_m0
    split <;> split
    · rw [C_s1_ne (by omega) (by omega) (by omega), C_s0_ne (by omega) (by omega) (by omega)]
    · rw [C_s1_ne (by omega) (by omega) (by omega)]
    · rw [C_s0_ne (by omega) (by omega) (by omega)]
    · rfl
end NUH
