/-! what a row of the kit leaves of the heap's size: told once, for every row that changes cells -/
section SXR
variable {p : Program} {l : Launch} {e : Env} {R : Room} {s : State} {m : MethodId} {args : Array Value} {below : List Frame} {meth : Method} {c : Code}
variable {H H1 H0 : Heap} {locs locs1 : List Loc} {cells slots k : Nat} {Q : State → Prop} {g g' : JFrame} {A : Nat → Prop}
/-- the count of new cells may be drawn tight: no more than the heap has grown -/
theorem sx_tight (h : ∀ k, k ≤ cells → s.heap.size + k = H.size → W p l e R s m args below meth c H locs k slots Q g) : W p l e R s m args below meth c H locs cells slots Q g := by
  intro T hT X
  have hh : (T.setVm s.vm).heap = H := hT
  have lo := X.same.2.1
  have up := X.same.2.2.1
  rw [hh] at lo up
  refine h (H.size - s.heap.size) (by omega) (by omega) T hT { X with same := ⟨X.same.1, X.same.2.1, ?_, X.same.2.2.2⟩ }
  rw [hh]
  omega
/-- with a count of new cells the heap isn't larger than it says -/
theorem sx_know (h : H.size ≤ s.heap.size + k → W p l e R s m args below meth c H locs k slots Q g) : W p l e R s m args below meth c H locs k slots Q g := by
  intro T hT X
  have hh : (T.setVm s.vm).heap = H := hT
  have up := X.same.2.2.1
  rw [hh] at up
  exact h up T hT X
/-- what is kept since H, and what was kept since H0 -/
theorem sx_S2 (h : va_S A H0 H locs) (h1 : va_S A H H1 locs1) : va_S A H0 H1 locs1 :=
  ⟨Nat.le_trans h.1 h1.1, fun q hq hA => (h1.2.1 q (Nat.lt_of_lt_of_le hq h.1) hA).trans (h.2.1 q hq hA), h1.2.2⟩
/-- a row that makes no cell leaves the heap's size as it was -/
theorem sx_sized {Pz : Heap → Prop} (hS : va_S A H0 H locs)
    (row : ∀ k, va_S A H H locs → (∀ H1 locs1, Pz H1 → va_S A H H1 locs1 → W p l e R s m args below meth c H1 locs1 k slots Q g') → W p l e R s m args below meth c H locs k slots Q g)
    (kk : ∀ H1 locs1, H1.size = H.size → Pz H1 → va_S A H0 H1 locs1 → W p l e R s m args below meth c H1 locs1 cells slots Q g') : W p l e R s m args below meth c H locs cells slots Q g :=
  sx_tight fun _ hk hz => row _ ⟨Nat.le_refl _, fun _ _ _ => rfl, hS.2.2⟩ fun H1 locs1 hP h1 =>
    sx_know fun up => W.widen hk (Nat.le_refl _) (kk H1 locs1 (by have := h1.1; omega) hP (sx_S2 hS h1))
/-- one cell more, behind all others -/
theorem sx_grow {D : va_G} {cl : List vw_C} {ws : va_W} {x : va_E} (hP : va_P D cl ws H) (hS : va_S A H0 H locs) (hz : H1.size = H.size + 1) (old : ∀ q, q < H.size → H1[q]? = H[q]?) (hx : va_at D cl (H.size, x) H1) : va_P D cl (ws ++ [(H.size, x)]) H1 ∧ va_S A H0 H1 locs := by
  constructor
  · refine va_P.app (hP.kept fun j w hj => old _ (hP j w hj).lt) (fun j w hj => ?_)
    match j, hj with
    | 0, hj => cases hj; exact hx
    | j + 1, hj => cases hj
  · exact ⟨by have := hS.1; omega, fun q h1 h2 => (old q (Nat.lt_of_lt_of_le h1 hS.1)).trans (hS.2.1 q h1 h2), hS.2.2⟩
/-- a row of a row of rows is read -/
theorem sx_row {D : va_G} {cl : List vw_C} {ws : va_W} {tys : List (ClassId × FieldType)} {cc : ByteArray} {ls : Array Slot} {st : List Value} {a j pc w n : Nat} {cA : ClassId} {t : FieldType} {f : Nat → Option Nat} {i : Int32} (hx : p.tables.exec = Jvm.exec) (hb : c.code = cc) (hK : va_K D cl tys s) (hP : va_P D cl ws H)
    (hw : ws[w]? = some (a, .inl (cA, n, .inr (.inr (.inr (.inr f)))))) (hj : tys[j]? = some (cA, .array t)) (hi : vp_in i n) (hd : decode cc pc = .ok (.aaload, 1)) (kk : W p l e R s m args below meth c H locs cells slots Q (F0 m (pc + 1) ls (va_rf (f i.toNatClampNeg) :: st))) :
    W p l e R s m args below meth c H locs cells slots Q (F0 m pc ls (.int i :: .ref a :: st)) := by
  have here : H[a]? = some (arrV cA n fun j => va_rf (f j)) := hP w _ hw
  have up : i.toNatClampNeg < n := Nat.lt_of_not_le fun h => hi (.inr h)
  refine W.aald (ty := .array t) hx hb here ((hK.2 j _ hj).1 n _) rfl (by intro h; cases h) ?_ (arrV_read _ _ up) rfl rfl hd kk
  rw [arrV_size]
  exact hi
end SXR
