section QT
variable {sc : Nat × (Nat → Int32)} {D y pc : Nat} {ls st : List V2} {u : PU} {bb : Bool} {σ : St} {Q : QP} {x i : Int} {idx y' : Nat}
theorem q_tr_sub (j : Nat) : q_tr j - 2000000 = j := Nat.add_sub_cancel_left _ _
theorem q_tr_le (j : Nat) : 2000000 ≤ q_tr j := Nat.le_add_right _ _
theorem q_tx_get {j : Nat} (hj : j < 12) : pm_tx[j]? = some (pm_tx.getD j []) := by
  have hl : pm_tx.length = 12 := by decide +kernel
  rw [List.getD_eq_getElem?_getD, List.getElem?_eq_getElem (by omega)]
  rfl
theorem q_call8f {a : Nat} {t : List Nat} (hc : q_sum (vr a :: st) ≤ 100 ∧ pm_fits y 0 0 u = true) (ha : 2000000 ≤ a ∧ q_sum st ≤ 8) (ht : pm_tx[a - 2000000]? = some t) : q_call y 8 y' pc ls (vr a :: st) u σ = some (.inl (pc + 3, ls, vi t.length :: st, u, σ)) := by
  cases hp : q_call y 8 y' pc ls (vr a :: st) u σ with
  | none =>
    exfalso
    unfold q_call at hp
    split at hp
    · simp only at hp
      split at hp
      · split at hp
        · cases hp
        · rename_i hn
          rw [ht] at hn
          cases hn
      · rename_i hn
        exact hn ha
    · rename_i hn
      exact hn hc
  | some N' =>
    unfold q_call at hp
    split at hp
    · simp only at hp
      split at hp
      · split at hp
        · rename_i t' ht'
          rw [ht] at ht'
          cases ht'
          exact hp.symm
        · rename_i hn
          rw [ht] at hn
          cases hn
      · rename_i hn
        exact absurd ha hn
    · rename_i hn
      exact absurd hc hn
theorem q_call9f {a : Nat} {t : List Nat} (hc : q_sum (vi i :: vr a :: st) ≤ 100 ∧ pm_fits y 0 0 u = true) (ha : 2000000 ≤ a ∧ q_sum st ≤ 8) (ht : pm_tx[a - 2000000]? = some t) : q_call y 9 y' pc ls (vi i :: vr a :: st) u σ = if 0 ≤ i ∧ i < t.length then some (.inl (pc + 3, ls, vi (t.getD i.toNat 0 : Nat) :: st, u, σ)) else none := by
  cases hp : q_call y 9 y' pc ls (vi i :: vr a :: st) u σ with
  | none =>
    unfold q_call at hp
    split at hp
    · simp only at hp
      split at hp
      · split at hp
        · rename_i t' ht'
          rw [ht] at ht'
          cases ht'
          exact hp.symm
        · rename_i hn
          rw [ht] at hn
          cases hn
      · rename_i hn
        exact absurd ha hn
    · rename_i hn
      exact absurd hc hn
  | some N' =>
    unfold q_call at hp
    split at hp
    · simp only at hp
      split at hp
      · split at hp
        · rename_i t' ht'
          rw [ht] at ht'
          cases ht'
          exact hp.symm
        · rename_i hn
          rw [ht] at hn
          cases hn
      · rename_i hn
        exact absurd ha hn
    · rename_i hn
      exact absurd hc hn
theorem r_slen {j : Nat} (h : pm_dec y pc = some (.invokevirtual idx) ∧ pm_mth (pm_own y) idx = some (8, y') ∧ pm_fits y 0 0 u = true) (hj : j < 12) (hs : q_sum (vr (q_tr j) :: st) ≤ 100) (hs2 : q_sum st ≤ 8) : qx sc D y pc ls (vr (q_tr j) :: st) u bb σ Q ↔ qx sc D y (pc + 3) ls (vi ((pm_tx.getD j []).length : Nat) :: st) u bb σ Q :=
  qx_go h.1 (by
    simp only [q_act, h.2.1]
    rw [if_pos (by decide)]
    exact q_call8f ⟨hs, h.2.2⟩ ⟨q_tr_le j, hs2⟩ (by rw [q_tr_sub]; exact q_tx_get hj))
theorem r_char {j : Nat} (h : pm_dec y pc = some (.invokevirtual idx) ∧ pm_mth (pm_own y) idx = some (9, y') ∧ pm_fits y 0 0 u = true) (hj : j < 12) (hs : q_sum (vi i :: vr (q_tr j) :: st) ≤ 100) (hs2 : q_sum st ≤ 8) : qx sc D y pc ls (vi i :: vr (q_tr j) :: st) u bb σ Q ↔ (0 ≤ i ∧ i < ((pm_tx.getD j []).length : Nat)) ∧ qx sc D y (pc + 3) ls (vi ((pm_tx.getD j []).getD i.toNat 0 : Nat) :: st) u bb σ Q := by
  have e : q_act sc y (.invokevirtual idx) pc ls (vi i :: vr (q_tr j) :: st) u σ = if 0 ≤ i ∧ i < ((pm_tx.getD j []).length : Nat) then some (.inl (pc + 3, ls, vi ((pm_tx.getD j []).getD i.toNat 0 : Nat) :: st, u, σ)) else none := by
    simp only [q_act, h.2.1]
    rw [if_pos (by decide)]
    exact q_call9f ⟨hs, h.2.2⟩ ⟨q_tr_le j, hs2⟩ (by rw [q_tr_sub]; exact q_tx_get hj)
  exact r_and (fun hr => qx_go h.1 (by rw [e, if_pos hr])) (fun hr => qx_no h.1 (by rw [e, if_neg hr]))
def q_lsw (tg : List (Int × Nat)) (dt : Nat) (x : Int) : Nat := match tg with
  | [] => dt
  | e :: tg => if x = e.1 then e.2 else q_lsw tg dt x
theorem q_lsw_ok {d : Int} {dt : Nat} (hd : (pc : Int) + d = dt) : ∀ (ps : List (Int × Int)) (tg : List (Int × Nat)), ps.map (fun e => (e.1, (pc : Int) + e.2)) = tg.map (fun e => (e.1, (e.2 : Int))) → ∀ x, (pc : Int) + Op.lookupswitch.offset ps d x = (q_lsw tg dt x : Nat) := by
  intro ps
  induction ps with
  | nil =>
    intro tg h x
    cases tg with
    | nil => simpa [Op.lookupswitch.offset, q_lsw] using hd
    | cons e tg => simp at h
  | cons p ps ih =>
    intro tg h x
    cases tg with
    | nil => simp at h
    | cons e tg =>
      simp only [List.map_cons, List.cons.injEq, Prod.mk.injEq] at h
      have := ih tg h.2 x
      obtain ⟨pa, po⟩ := p
      simp only at h
      rw [Op.lookupswitch.offset_cons]
      unfold q_lsw
      by_cases hx : x = e.1
      · rw [if_pos hx, if_pos (by rw [h.1.1, hx])]
        exact h.1.2
      · rw [if_neg hx, if_neg (by rw [h.1.1]; exact fun q => hx q.symm)]
        exact this
theorem r_lsw {d : Int} {ps : Array (Int × Int)} {dt : Nat} {tg : List (Int × Nat)} (h : pm_dec y pc = some (.lookupswitch d ps) ∧ (ps.toList.zip (ps.toList.drop 1)).all (fun (a, next) => a.1 < next.1) = true ∧ (pc : Int) + d = dt ∧ ps.toList.map (fun e => (e.1, (pc : Int) + e.2)) = tg.map (fun e => (e.1, (e.2 : Int)))) : qx sc D y pc ls (vi x :: st) u bb σ Q ↔ qx sc D y (q_lsw tg dt x) ls st u bb σ Q := by
  refine qx_go h.1 ?_
  simp only [q_act]
  rw [if_pos h.2.1, q_lsw_ok h.2.2.1 _ _ h.2.2.2]
  unfold q_go
  rw [if_pos (by omega), Int.toNat_natCast]
end QT
