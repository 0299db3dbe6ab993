section NUU
variable {sc : Nat × (Nat → Int32)} {D : Nat} {bb : Bool} {Q : QP} {c : Nat} {C r r' : St} {v s k l ar cc : Int} {dep : Nat} {pl : Int → Int} {t : TT}
theorem n30 {pA : Int → Int → Int → Int → SO} {gA : NF} {kA : List (Int × Int)} (hc : q_C c) (hd : dep ≤ 4) (hA : CWK c C (D + 3) pA gA (dep + 1)) (lA : LN pA gA) (hkA : ∀ ar s k l, (pA ar s k l).1.map (fun r => (r.1.1, r.1.2.1)) = kA)
    (zA : ∀ ar s k l, ∀ x ∈ (pA ar s k l).1, x.1.1 = 0 → ¬ x.1.2.1 = -1) (ht : VALt pl t) (hi : INN r v) (s0 : 0 ≤ s) (s40 : s + (s_wh t (pA l) ar s k l).1.length ≤ 40) (k0 : 0 ≤ k) (k40 : k + (s_wh t (pA l) ar s k l).2.1.length ≤ 40)
    (hv : v + (n_wh t (tbits kA 0) gA s k l v cc ar (nz (r 40))).2.1.length ≤ 240) (hS : TAB (SRok C) s (s_wh t (pA l) ar s k l).1) (hK : TAB (KRok C) k (s_wh t (pA l) ar s k l).2.1)
    (kk : ∀ r', VOC r r' v s k dep (n_wh t (tbits kA 0) gA s k l v cc ar (nz (r 40))) → Q (.inl none) bb (NS c C r')) : qx sc (D + 4) 30 0 [vr 39, vi s, vi dep, vn, vn, vn, vn] [] (0, 0) bb (NS c C r) Q := by
  obtain ⟨now1, h1⟩ : ∃ f, f = v_now (tbits kA 0) 8 0 v (nz (r 40)) := ⟨_, rfl⟩
  obtain ⟨H, hH⟩ : ∃ H, H = v_sd t (v_sv now1 t.2.1) (v_sv now1 t.2.2) 3 s := ⟨_, rfl⟩
  obtain ⟨F, hF⟩ : ∃ F, F = v_sd t (v_sv now1 t.2.1) (v_sv now1 t.2.2) 4 s := ⟨_, rfl⟩
  obtain ⟨PA, hPA⟩ : ∃ PA, PA = pA l (s + 1) k (l + 1) := ⟨_, rfl⟩
  obtain ⟨oA, hoA⟩ : ∃ oA, oA = gA (s + 1) k (l + 1) (v + (v_many (tbits kA 0) 8 0 : Nat) + H.length) (cc + 1 + (v_many (tbits kA 0) 8 0 : Nat) + 2 + H.length) l (v_sn t (v + (v_many (tbits kA 0) 8 0 : Nat)) now1) := ⟨_, rfl⟩
  obtain ⟨q1, q2, q3⟩ := lA l (s + 1) k (l + 1) (v + (v_many (tbits kA 0) 8 0 : Nat) + H.length) (cc + 1 + (v_many (tbits kA 0) 8 0 : Nat) + 2 + H.length) (v_sn t (v + (v_many (tbits kA 0) 8 0 : Nat)) now1)
  rw [← hoA, ← hPA] at q1 q2 q3
  have en := n_wh_eq (set := tbits kA 0) (ar := ar) h1 hH hF hoA
  have es := s_wh_eq (t := t) (ar := ar) (pA := pA l) hPA
  rw [es] at s40 k40 hS hK
  rw [en] at hv kk
  dsimp only at s40 k40 hS hK hv
  rw [List.length_cons] at s40
  rw [List.length_append, List.length_append, List.length_append, v_round_len] at hv
  obtain ⟨hrow, hSA⟩ := hS
  obtain ⟨t2, -, -, -, -, -, -, -, t10, t11, tT⟩ := hrow
  dsimp only at t2 t10 t11 tT
  obtain ⟨u1, u2, u3, u4, u5⟩ := tT (by decide)
  have hk : TSK C s t := ⟨u1, ⟨u2, u3⟩, ⟨u4, u5⟩⟩
  have hd5 : dep ≤ 5 := by omega
  have s1 : s < 40 := by omega
  have hset : tbits (PA.1.map (fun r => (r.1.1, r.1.2.1))) 0 = tbits kA 0 := by rw [hPA, hkA]
  have e9 : NS c C r 9 0 = v := by rw [NS_lo hc (by decide) (by decide)]; exact hi.1
  simp only [k30_0, k30_1, k30_4, k30_5 hc, NS_co, c_nn, Int.toNat_natCast, true_implies, false_implies, not_true_eq_false, not_false_eq_true, true_and, and_true, implies_true, or_true, true_or, or_false, false_or, Int.reduceEq, Int.one_ne_zero, Nat.reduceEqDiff]
  refine n15 hc hSA (by rw [hPA]; exact zA _ _ _ _) t11 s0 (by omega) ?_
  rw [hset]
  simp only [q_kn_v, k30_8, k30_9, k30_10, k30_13, k30_16, k30_18, k30_19, e9]
  refine n30_r (q' := 1000) (k := 1000) (dp := 100) (now := nz (r 40)) hc s0 s1 8 0 r v _ rfl (Int.le_refl _) hi (fun j j0 j1 => (nz_at j0 j1).symm) (by omega) (fun r1 l5 l6 hV1 => ?_)
  rw [← h1] at hV1
  obtain ⟨x1, -, -, x4, x5, x6⟩ := hV1
  dsimp only at x1 x4 x6
  rw [v_round_len] at x6
  have hn1 : ∀ j, 0 ≤ j → j ≤ 7 → now1 j = r1 40 j := fun j j0 j1 => by rw [← x4]; exact nz_at j0 j1
  have hnn : nz now1 = now1 := by rw [← x4]; exact nz_nz
  refine n30_a2 hc hd5 x6 s0 s1 hk ht t11 (by omega) (by have := hi.2.1; omega) (by rw [x4, ← hH]; omega) ?_
  have g40 : ∀ j, q_up (q_up r1 31 s v) 32 s (v + (v_many (tbits kA 0) 8 0 : Nat) - v) 40 j = r1 40 j := fun j => by rw [q_up_ne _ _ _ _ (by decide), q_up_ne _ _ _ _ (by decide)]
  have hi2 : INN (q_up (q_up r1 31 s v) 32 s (v + (v_many (tbits kA 0) 8 0 : Nat) - v)) (v + (v_many (tbits kA 0) 8 0 : Nat)) := INN_of x6 (by rw [q_up_ne _ _ _ _ (by decide), q_up_ne _ _ _ _ (by decide)]) (fun j _ _ => g40 j) (fun j _ => by rw [q_up_ne _ _ _ _ (by decide), q_up_ne _ _ _ _ (by decide)])
  have n40 : nz (q_up (q_up r1 31 s v) 32 s (v + (v_many (tbits kA 0) 8 0 : Nat) - v) 40) = now1 := by rw [← x4]; exact nz_of (fun j _ _ => g40 j)
  have p31 : q_up (q_up r1 31 s v) 32 s (v + (v_many (tbits kA 0) 8 0 : Nat) - v) 31 s = v := by rw [q_up_ne _ _ _ _ (by decide), q_up_eq]
  have p32 : q_up (q_up r1 31 s v) 32 s (v + (v_many (tbits kA 0) 8 0 : Nat) - v) 32 s = (v_many (tbits kA 0) 8 0 : Nat) := by rw [q_up_eq]; omega
  have f2 : FR4 (v + (v_many (tbits kA 0) 8 0 : Nat)) (fun j => ¬ j = s) (fun _ => True) dep r1 (q_up (q_up r1 31 s v) 32 s (v + (v_many (tbits kA 0) 8 0 : Nat) - v)) := FR4_trans (FR4_row (v := v + (v_many (tbits kA 0) 8 0 : Nat)) (sx := fun j => ¬ j = s) (kx := fun _ => True) (dep := dep) (by decide) (fun j hj => hj)) (FR4_row (v := v + (v_many (tbits kA 0) 8 0 : Nat)) (sx := fun j => ¬ j = s) (kx := fun _ => True) (dep := dep) (by decide) (fun j hj => hj)) (Int.le_refl _) (Int.le_refl _) (fun j hj => ⟨hj, hj⟩) (fun j hj => ⟨hj, hj⟩) (Nat.le_refl _) (Nat.le_refl _)
  generalize q_up (q_up r1 31 s v) 32 s (v + (v_many (tbits kA 0) 8 0 : Nat) - v) = r2 at *
  obtain ⟨y1, y2, y3, y4, y5, w0, w1, y6⟩ := hd_ok (dep := dep) hd5 hi2 hk ht
  rw [n40] at y2 y3 w0 w1
  obtain ⟨a1, a2, a3, a4, a5, a6, a7, a8, a9, a10⟩ := mk_at (b := 33) y1 y2 (Or.inl rfl) w0 w1 (Or.inl rfl)
  rw [← hH] at a1 a5 a7
  rw [y3] at a4
  have a31 : q_up (C_mk C (C_hd C r2 s dep) s 3) 33 s (v + (v_many (tbits kA 0) 8 0 : Nat)) 31 s = v := by rw [a10 31 (by decide) (by decide), y6 31 (by decide), p31]
  have a32 : q_up (C_mk C (C_hd C r2 s dep) s 3) 33 s (v + (v_many (tbits kA 0) 8 0 : Nat)) 32 s = (v_many (tbits kA 0) 8 0 : Nat) := by rw [a10 32 (by decide) (by decide), y6 32 (by decide), p32]
  generalize C_m1 C (C_m0 C (C_hd C r2 s dep) s 3) s 3 = r3 at *
  generalize q_up (C_mk C (C_hd C r2 s dep) s 3) 33 s (v + (v_many (tbits kA 0) 8 0 : Nat)) = r4 at *
  have cA := hA sc bb (q_kn sc (D + 4) 30 170 [vr 39, vi s, vi dep, vi (tbits kA 0), vi v, l5, l6] [] (0, 0) Q) r4 (v + (v_many (tbits kA 0) 8 0 : Nat) + H.length) (s + 1) k (l + 1) l (cc + 1 + (v_many (tbits kA 0) 8 0 : Nat) + 2 + H.length) a5 (by omega)
  rw [a4, ← hoA, ← hPA] at cA
  refine cA (by omega) k0 (by omega) (by omega) hSA hK (fun r5 hV5 => ?_)
  clear cA hA
  obtain ⟨b1, b2, b3, b4, b5, b6⟩ := hV5
  have f54 : ∀ a j, 10 ≤ a ∧ a ≤ 26 → j < v + (v_many (tbits kA 0) 8 0 : Nat) → r5 a j = r1 a j := fun a j ha hj => by
    rw [b5 a j (NBl_v (by omega) ha), a3.1 a j ha hj, y4.1 a j ha hj, f2.1 a j ha hj]
  rw [q_kn_n]
  simp only [k30_170, k30_172]
  refine n30_o (first := v) (N := (v_many (tbits kA 0) 8 0 : Nat)) hc s0 s1 (by have := hi.2.1; omega) (by omega) (v_many (tbits kA 0) 8 0) v r5 (by rw [b5 32 s (NBl_s (by omega) (by decide))]; exact a32) rfl (Int.le_refl _) (fun j j0 j1 => ?_) (fun r6 l5' g1 g2 => ?_)
  · rw [f54 10 j (by decide) j1]
    exact round_var 8 0 v (Int.le_refl _) (by omega) x1 j j0 j1
  · have e6 : ∀ a j, ¬ a = 14 → r6 a j = r5 a j := fun a j ha => g1 a j (by omega)
    have e37 : r6 37 s = v_sv now1 t.2.1 := by rw [e6 37 s (by decide), b5 37 s (NBl_s (by omega) (by decide))]; exact a8
    have e38 : r6 38 s = v_sv now1 t.2.2 := by rw [e6 38 s (by decide), b5 38 s (NBl_s (by omega) (by decide))]; exact a9
    have htc : TSC C r6 s t (v_sv now1 t.2.1) (v_sv now1 t.2.2) := ⟨u1, ⟨u2, u3⟩, ⟨u4, u5⟩, e37, e38⟩
    have eah : ∀ j, 0 ≤ j → j ≤ 7 → C_bk r6 dep 40 j = now1 j := fun j j0 j1 => by
      unfold C_bk
      rw [cpy_at j j0 j1, e6 _ _ (by omega), b5 (41 + 1 + dep) j (by unfold NBl; omega), a3.2.2.2 (41 + 1 + dep) j (by omega), y5 j j0 j1, ← n40, nz_at j0 j1]
    have hib : INN (C_bk r6 dep) (v + (v_many (tbits kA 0) 8 0 : Nat) + H.length + oA.2.1.length) := by
      refine ⟨by rw [C_bk_ne (by decide), e6 9 0 (by decide)]; exact b6.1, b6.2.1, fun i i0 i1 => ?_, fun i i0 i1 => ?_⟩
      · rw [eah i i0 i1, hn1 i i0 i1]
        have := x6.2.2.1 i i0 i1
        omega
      · rw [C_bk_ne (by decide), e6 17 i (by decide)]; exact b6.2.2.2 i i0 i1
    have htd : TSC C (C_bk r6 dep) s t (v_sv now1 t.2.1) (v_sv now1 t.2.2) := ⟨u1, ⟨u2, u3⟩, ⟨u4, u5⟩, by rw [C_bk_ne (by decide)]; exact e37, by rw [C_bk_ne (by decide)]; exact e38⟩
    have nzb : nz (C_bk r6 dep 40) = now1 := by
      rw [← hnn]
      funext j
      unfold nz
      by_cases hj : 0 ≤ j ∧ j ≤ 7
      · rw [if_pos hj, if_pos hj, eah j hj.1 hj.2]
      · rw [if_neg hj, if_neg hj]
    have w0' : t.2.1.1 = 3 → 0 ≤ v_sv now1 t.2.1 ∧ v_sv now1 t.2.1 < v + (v_many (tbits kA 0) 8 0 : Nat) + H.length + oA.2.1.length := fun g => by have := w0 g; omega
    have w1' : t.2.2.1 = 3 → 0 ≤ v_sv now1 t.2.2 ∧ v_sv now1 t.2.2 < v + (v_many (tbits kA 0) 8 0 : Nat) + H.length + oA.2.1.length := fun g => by have := w1 g; omega
    obtain ⟨c1, c2, c3, c4, c5, c6, c7, c8, c9, c10⟩ := mk_at (b := 34) hib htd (Or.inr rfl) w0' w1' (Or.inr rfl)
    rw [← hF] at c1 c5 c7
    rw [nzb] at c4
    refine n30_b hc hd5 hib s0 s1 htc ht (by rw [← hF]; omega) w0' w1' ?_
    have rw9 : ∀ a, 30 ≤ a ∧ a ≤ 33 → C_bk r6 dep a s = r4 a s := fun a ha => by rw [C_bk_ne (by omega), e6 a s (by omega), b5 a s (NBl_s (by omega) (by omega))]
    have d31 := c10 31 (by decide) (by decide)
    have d32 := c10 32 (by decide) (by decide)
    have d33 := c10 33 (by decide) (by decide)
    rw [rw9 31 (by decide), a31] at d31
    rw [rw9 32 (by decide), a32] at d32
    rw [rw9 33 (by decide), a6] at d33
    have hlen : (F.length : Int) = H.length := by rw [hF, hH, v_sd_len, v_sd_len]
    generalize C_m1 C (C_m0 C (C_bk r6 dep) s 4) s 4 = r8 at *
    generalize q_up (C_mk C (C_bk r6 dep) s 4) 34 s (v + (v_many (tbits kA 0) 8 0 : Nat) + H.length + oA.2.1.length) = r9 at *
    have F59 : ∀ a j, 10 ≤ a ∧ a ≤ 26 → ¬ (a = 14 ∧ v ≤ j ∧ j < v + (v_many (tbits kA 0) 8 0 : Nat)) → j < v + (v_many (tbits kA 0) 8 0 : Nat) + H.length + oA.2.1.length → r9 a j = r5 a j := fun a j ha hn hj => by rw [c3.1 a j ha hj, C_bk_ne (by omega), g1 a j hn]
    refine kk _ ⟨?_, ⟨⟨fun h => absurd rfl h, fun _ => ⟨⟨d31, d32⟩, ⟨d33, c6, by rw [c7]; exact hlen⟩, c8, c9⟩⟩, ?_⟩, ?_, c4, FR4_to ?_, ?_⟩
    · dsimp only
      refine (TAB_app _ _ _).mpr ⟨?_, (TAB_app _ _ _).mpr ⟨?_, (TAB_app _ _ _).mpr ⟨?_, ?_⟩⟩⟩
      · refine round_finC 8 0 v x1 (fun i i0 i1 => ⟨fun a ha hn => ?_, ?_⟩)
        · rw [F59 a i ha (by omega) (by omega), f54 a i ha i1]
        · rw [c3.1 14 i (by decide) (by omega), C_bk_ne (by decide), g2 i i0 i1, f54 10 i (by decide) i1]
          obtain ⟨z0, z1⟩ := round_var 8 0 v (Int.le_refl _) (by omega) x1 i i0 i1
          rw [← b4, nz_at z0 (by omega)]
      · rw [v_round_len]
        refine TABv_up' a1 (fun a j ha hn hj => ?_)
        rw [F59 a j ha (by omega) (by omega), b5 a j (NBl_v (by omega) ha), (a2 (v + (v_many (tbits kA 0) 8 0 : Nat) + H.length) (fun _ => False) dep).1 a j ha hj]
      · rw [v_round_len]
        exact TABv_up' b1 (fun a j ha hn hj => F59 a j ha (by omega) (by omega))
      · rw [v_round_len]
        exact TABv_up' c1 (fun a j ha hn hj => (c2 (v + (v_many (tbits kA 0) 8 0 : Nat) + H.length + oA.2.1.length + F.length) (fun _ => False) dep).1 a j ha hj)
    · exact TABm_up b2 (fun a j ha h1 h2 => by rw [c3.2.1 a j ha ⟨by omega, by omega⟩, C_bk_ne (by omega), e6 a j (by omega)])
    · dsimp only
      exact TABc_up b3 (fun a j ha h1 h2 => by rw [c3.2.2.1 a j ha (by omega), C_bk_ne (by omega), e6 a j (by omega)])
    · refine ⟨fun a j ha hj => ?_, fun a j ha hj => ?_, fun a j ha hj => ?_, fun a j ha => ?_⟩
      · rw [F59 a j ha (by omega) (by omega), f54 a j ha (by omega), x5 a j (NBl_v hj ha)]
      · rw [c3.2.1 a j ha ⟨by omega, by omega⟩, C_bk_ne (by omega), e6 a j (by omega), b5 a j (NBl_s (by omega) ha), a3.2.1 a j ha ⟨by omega, by omega⟩, y4.2.1 a j ha (by omega), f2.2.1 a j ha (by omega), x5 a j (NBl_s (by omega) ha)]
      · rw [c3.2.2.1 a j ha (by omega), C_bk_ne (by omega), e6 a j (by omega), b5 a j (NBl_k (by omega) ha), a3.2.2.1 a j ha (by omega), y4.2.2.1 a j ha trivial, f2.2.2.1 a j ha trivial, x5 a j (NBl_k (by omega) ha)]
      · rw [c3.2.2.2 a j (by omega), C_bk_ne (by omega), e6 a j (by omega), b5 a j (by unfold NBl; omega), a3.2.2.2 a j (by omega), y4.2.2.2 a j ha, f2.2.2.2 a j ha, x5 a j (by unfold NBl; omega)]
    · have e : v + ((v_round (tbits kA 0) (nz (r 40)) oA.1 s 8 0 ++ (H ++ (oA.2.1 ++ F))).length : Nat) = v + (v_many (tbits kA 0) 8 0 : Nat) + H.length + oA.2.1.length + F.length := by
        rw [List.length_append, List.length_append, List.length_append, v_round_len]
        omega
      dsimp only
      rw [e]
      exact c5
end NUU
