section NUL
variable {C r r' r1 r2 r3 r4 : St} {i v v' s k l x n fr how ar cc af set f z : Int} {sx kx : Int → Prop} {dep dp a b : Nat} {g : Int → Int} {t : TT} {sv0 sv1 : Int} {pl : Int → Int}
theorem INN_of (h : INN r v) (h9 : r' 9 0 = r 9 0) (h40 : ∀ j, 0 ≤ j → j ≤ 7 → r' 40 j = r 40 j) (h17 : ∀ j, j < v → r' 17 j = r 17 j) : INN r' v := by
  obtain ⟨b1, b2, b3, b4⟩ := h
  exact ⟨by rw [h9, b1], b2, fun i i0 i1 => by rw [h40 i i0 i1]; exact b3 i i0 i1, fun i i0 i1 => by rw [h17 i i1]; exact b4 i i0 i1⟩
theorem nz_of (h40 : ∀ j, 0 ≤ j → j ≤ 7 → r' 40 j = r 40 j) : nz (r' 40) = nz (r 40) := by
  funext j
  unfold nz
  by_cases hj : 0 ≤ j ∧ j ≤ 7
  · rw [if_pos hj, if_pos hj, h40 j hj.1 hj.2]
  · rw [if_neg hj, if_neg hj]
/-- what the Code's rows say of a test -/
def TSK (C : St) (s : Int) (t : TT) : Prop := C 17 s = t.1 ∧ (C 19 s = t.2.1.1 ∧ C 22 s = t.2.1.2) ∧ (C 20 s = t.2.2.1 ∧ C 23 s = t.2.2.2)
theorem look_C (hk : TSK C s t) (ht : VALt pl t) : TSC C (C_look C r s) s t (v_sv (nz (r 40)) t.2.1) (v_sv (nz (r 40)) t.2.2) := by
  obtain ⟨e1, ⟨e2, e3⟩, ⟨e4, e5⟩⟩ := hk
  obtain ⟨-, t1, t2⟩ := ht
  refine ⟨e1, ⟨e2, e3⟩, ⟨e4, e5⟩, ?_, ?_⟩
  · unfold C_look C_sv v_sv
    rw [q_up_ne _ _ _ _ (by decide), q_up_eq, show 19 + 0 = 19 from rfl, show 22 + 0 = 22 from rfl, e2, e3]
    by_cases g : t.2.1.1 = 3
    · unfold VALs at t1
      rw [if_pos g, if_pos g, nz_at (by omega) (by omega)]
    · rw [if_neg g, if_neg g]
  · unfold C_look C_sv v_sv
    rw [q_up_eq, show 19 + 1 = 20 from rfl, show 22 + 1 = 23 from rfl, e4, e5]
    by_cases g : t.2.2.1 = 3
    · unfold VALs at t2
      rw [if_pos g, if_pos g, nz_at (by omega) (by omega)]
    · rw [if_neg g, if_neg g]
theorem look_ne' (h : ¬ (37 ≤ a ∧ a ≤ 38 ∧ i = s)) : C_look C r s a i = r a i := by
  unfold C_look
  rw [q_up, if_neg (by omega), q_up, if_neg (by omega)]
theorem look_F (hs : ∀ j, sx j → ¬ j = s) : FR4 v sx kx dep r (C_look C r s) :=
  ⟨fun b j hb _ => look_ne' (by omega), fun b j hb hj => look_ne' (fun h => hs j hj h.2.2), fun b j hb _ => look_ne' (by omega), fun b j hb => look_ne' (by omega)⟩
/-- an answer's versions are made, and the first is kept -/
theorem mk_at (h : INN r v) (ht : TSC C r s t sv0 sv1) (hh : how = 3 ∨ how = 4) (w0 : t.2.1.1 = 3 → 0 ≤ sv0 ∧ sv0 < v) (w1 : t.2.2.1 = 3 → 0 ≤ sv1 ∧ sv1 < v) (hb : b = 33 ∨ b = 34) :
    TAB (VRokC (C_m1 C (C_m0 C r s how) s how)) v (v_sd t sv0 sv1 how s) ∧
    (∀ w kx dep, FR4 w (fun j => ¬ j = s) kx dep (C_m1 C (C_m0 C r s how) s how) (q_up (C_mk C r s how) b s v)) ∧
    FR4 v (fun j => ¬ j = s ∧ j < 1000) (fun j => j < 1000) 100 r (q_up (C_mk C r s how) b s v) ∧
    nz (q_up (C_mk C r s how) b s v 40) = v_sn t v (nz (r 40)) ∧ INN (q_up (C_mk C r s how) b s v) (v + (v_sd t sv0 sv1 how s).length) ∧
    q_up (C_mk C r s how) b s v b s = v ∧ q_up (C_mk C r s how) b s v 35 s = (v_sd t sv0 sv1 how s).length ∧ q_up (C_mk C r s how) b s v 37 s = sv0 ∧ q_up (C_mk C r s how) b s v 38 s = sv1 ∧ (∀ a, 30 ≤ a ∧ a ≤ 34 → ¬ a = b → q_up (C_mk C r s how) b s v a s = r a s) := by
  have z1 := VOC_sd (k := 1000) (q' := 1000) (dep := 100) h ht hh w0 w1
  obtain ⟨k1, k2, k3, k4, k5⟩ := C_mk_ok (k := 1000) (dep := 100) h ht hh w0 w1
  have f1 : ∀ w kx dep, FR4 w (fun j => ¬ j = s) kx dep (C_m1 C (C_m0 C r s how) s how) (q_up (C_mk C r s how) b s v) := fun w kx dep => by
    unfold C_mk
    exact FR4_trans (FR4_row (by omega) (fun j hj => hj)) (FR4_row (by omega) (fun j hj => hj)) (Int.le_refl _) (Int.le_refl w) (fun j hj => ⟨hj, hj⟩) (fun j (hj : kx j) => ⟨hj, hj⟩) (Nat.le_refl _) (Nat.le_refl dep)
  refine ⟨z1.1, f1, ?_, ?_, ?_, q_up_eq _ _ _ _, ?_, ?_, ?_, fun a ha hn => ?_⟩
  · exact FR4_trans (FR4_IVN z1.2.2.2.2.1) (f1 v (fun _ => True) 100) (Int.le_refl _) (Int.le_refl _) (fun j hj => ⟨hj.2, hj.1⟩) (fun j hj => ⟨hj, trivial⟩) (Nat.le_refl _) (Nat.le_refl _)
  · rw [show q_up (C_mk C r s how) b s v 40 = C_mk C r s how 40 from funext fun j => q_up_ne _ _ _ _ (by omega)]
    exact k1.2.2.2.1
  · exact INN_of k1.2.2.2.2.2 (q_up_ne _ _ _ _ (by omega)) (fun j _ _ => q_up_ne _ _ _ _ (by omega)) (fun j _ => q_up_ne _ _ _ _ (by omega))
  · rw [q_up_ne _ _ _ _ (by omega)]; exact k2
  · rw [q_up_ne _ _ _ _ (by omega)]; exact k3
  · rw [q_up_ne _ _ _ _ (by omega)]; exact k4
  · rw [q_up_ne _ _ _ _ hn]; exact k5 a ha
/-- an array is copied -/
theorem cpy_at {a b : Nat} (j : Int) (h0 : 0 ≤ j) (h1 : j ≤ 7) : q_upf r b (q_cpy (r a) (r b) 0 0 8) b j = r a j := by
  rw [q_upf_eq]
  unfold q_cpy
  rw [if_pos (by omega)]
  congr 1
  omega
end NUL
