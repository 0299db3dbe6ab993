section NUP
variable {sc : Nat × (Nat → Int32)} {D : Nat} {bb : Bool} {Q : QP} {c : Nat} {C r r' : St} {v v1 s k l x n ar cc mid aft sv0 sv1 how w : Int} {dep d1 a : Nat} {pl : Int → Int} {t : TT} {sx kx sx1 kx1 : Int → Prop}
theorem FR4_mono (h : FR4 v1 sx1 kx1 d1 r r') (hv : v ≤ v1) (hs : ∀ j, sx j → sx1 j) (hk : ∀ j, kx j → kx1 j) (hd : dep ≤ d1) : FR4 v sx kx dep r r' := by
  obtain ⟨h1, h2, h3, h4⟩ := h
  exact ⟨fun a j ha hj => h1 a j ha (by omega), fun a j ha hj => h2 a j ha (hs j hj), fun a j ha hj => h3 a j ha (hk j hj), fun a j ha => h4 a j (by omega)⟩
theorem n29 {pA pB : Int → Int → Int → Int → SO} {gA gB : NF} {kA kB : List (Int × Int)} (hc : q_C c) (hd : dep ≤ 4) (hA : CWK c C (D + 3) pA gA (dep + 1)) (hB : CWK c C (D + 3) pB gB (dep + 1)) (lA : LN pA gA) (lB : LN pB gB) (hkA : ∀ ar s k l, (pA ar s k l).1.map (fun r => (r.1.1, r.1.2.1)) = kA) (hkB : ∀ ar s k l, (pB ar s k l).1.map (fun r => (r.1.1, r.1.2.1)) = kB)
    (zA : ∀ ar s k l, ∀ x ∈ (pA ar s k l).1, x.1.1 = 0 → ¬ x.1.2.1 = -1) (zB : ∀ ar s k l, ∀ x ∈ (pB ar s k l).1, x.1.1 = 0 → ¬ x.1.2.1 = -1) (ht : VALt pl t) (hi : INN r v) (s0 : 0 ≤ s) (s40 : s + (s_if t (pA ar) (pB ar) ar s k l).1.length ≤ 40) (k0 : 0 ≤ k) (k40 : k + (s_if t (pA ar) (pB ar) ar s k l).2.1.length ≤ 40)
    (hv : v + (n_if t (tbits (kA ++ kB) 0) gA gB s k l v cc ar (nz (r 40))).2.1.length ≤ 240) (hS : TAB (SRok C) s (s_if t (pA ar) (pB ar) ar s k l).1) (hK : TAB (KRok C) k (s_if t (pA ar) (pB ar) ar s k l).2.1)
    (kk : ∀ r', VOC r r' v s k dep (n_if t (tbits (kA ++ kB) 0) gA gB s k l v cc ar (nz (r 40))) → Q (.inl none) bb (NS c C r')) : qx sc (D + 4) 29 0 [vr 39, vi s, vi dep, vn, vn, vn] [] (0, 0) bb (NS c C r) Q := by
  have hnn : nz (nz (r 40)) = nz (r 40) := nz_nz
  have hnow : ∀ j, 0 ≤ j → j ≤ 7 → nz (r 40) j = r 40 j := fun j j0 j1 => nz_at j0 j1
  have hb40 := hi.2.2.1
  obtain ⟨H, hH⟩ : ∃ H, H = v_sd t (v_sv (nz (r 40)) t.2.1) (v_sv (nz (r 40)) t.2.2) 3 s := ⟨_, rfl⟩
  obtain ⟨F, hF⟩ : ∃ F, F = v_sd t (v_sv (nz (r 40)) t.2.1) (v_sv (nz (r 40)) t.2.2) 4 s := ⟨_, rfl⟩
  obtain ⟨PA, hPA⟩ : ∃ PA, PA = pA ar (s + 1) k l := ⟨_, rfl⟩
  obtain ⟨oA, hoA⟩ : ∃ oA, oA = gA (s + 1) k l (v + H.length) (cc + 2 + H.length) ar (v_sn t v (nz (r 40))) := ⟨_, rfl⟩
  obtain ⟨q1, q2, q3⟩ := lA ar (s + 1) k l (v + H.length) (cc + 2 + H.length) (v_sn t v (nz (r 40)))
  rw [← hoA, ← hPA] at q1 q2 q3
  obtain ⟨PB, hPB⟩ : ∃ PB, PB = pB ar (s + 1 + oA.2.2.1.length) (k + oA.2.2.2.1.length) (l + oA.2.2.2.2.1.length) := ⟨_, rfl⟩
  obtain ⟨oB, hoB⟩ : ∃ oB, oB = gB (s + 1 + oA.2.2.1.length) (k + oA.2.2.2.1.length) (l + oA.2.2.2.2.1.length) (v + H.length + oA.2.1.length + F.length) (cc + 2 + H.length + oA.2.2.2.2.2.length + 1 + F.length) ar (v_sn t (v + H.length + oA.2.1.length) (nz (r 40))) := ⟨_, rfl⟩
  obtain ⟨q4, q5, -⟩ := lB ar (s + 1 + oA.2.2.1.length) (k + oA.2.2.2.1.length) (l + oA.2.2.2.2.1.length) (v + H.length + oA.2.1.length + F.length) (cc + 2 + H.length + oA.2.2.2.2.2.length + 1 + F.length) (v_sn t (v + H.length + oA.2.1.length) (nz (r 40)))
  rw [← hoB, ← hPB] at q4 q5
  have en := n_if_eq (set := tbits (kA ++ kB) 0) hH hF hoA hoB
  have es := s_if_eq (t := t) (ar := ar) (pA := pA ar) (pB := pB ar) (PB := PB) hPA (by rw [hPB, q1, q2, q3])
  rw [es] at s40 k40 hS hK
  rw [en] at hv kk
  dsimp only at s40 k40 hS hK hv
  rw [List.length_cons, List.length_append] at s40
  rw [List.length_append] at k40
  rw [List.length_append, List.length_append, List.length_append, List.length_append, v_join_len] at hv
  obtain ⟨hrow, hS'⟩ := hS
  obtain ⟨hSA, hSB⟩ := (TAB_app _ _ _).mp hS'
  obtain ⟨hKA, hKB⟩ := (TAB_app _ _ _).mp hK
  obtain ⟨t2, -, -, -, -, -, -, -, t10, t11, tT⟩ := hrow
  dsimp only at t2 t10 t11 tT
  obtain ⟨u1, u2, u3, u4, u5⟩ := tT (by decide)
  have hk : TSK C s t := ⟨u1, ⟨u2, u3⟩, ⟨u4, u5⟩⟩
  have hd5 : dep ≤ 5 := by omega
  have s1 : s < 40 := by omega
  obtain ⟨h1, h2, h3, h4, h5, w0, w1, h6⟩ := hd_ok (dep := dep) hd5 hi hk ht
  obtain ⟨a1, a2, a3, a4, a5, a6, a7, a8, a9, a10⟩ := mk_at (b := 33) h1 h2 (Or.inl rfl) w0 w1 (Or.inl rfl)
  rw [← hH] at a1 a5 a7
  rw [h3] at a4
  refine n29_a hc hd5 hi s0 s1 hk ht t10 (by rw [← hH]; omega) ?_
  generalize C_m1 C (C_m0 C (C_hd C r s dep) s 3) s 3 = r3 at *
  generalize q_up (C_mk C (C_hd C r s dep) s 3) 33 s v = r4 at *
  have cA := hA sc bb (q_kn sc (D + 4) 29 56 [vr 39, vi s, vi dep, vn, vn, vn] [] (0, 0) Q) r4 (v + H.length) (s + 1) k l ar (cc + 2 + H.length) a5 (by omega)
  rw [a4, ← hoA, ← hPA] at cA
  refine cA (by omega) k0 (by omega) (by omega) hSA hKA (fun r5 hV5 => ?_)
  clear cA hA
  obtain ⟨b1, b2, b3, b4, b5, b6⟩ := hV5
  have e37 : r5 37 s = v_sv (nz (r 40)) t.2.1 := by rw [b5 37 s (NBl_s (by omega) (by decide))]; exact a8
  have e38 : r5 38 s = v_sv (nz (r 40)) t.2.2 := by rw [b5 38 s (NBl_s (by omega) (by decide))]; exact a9
  have eah : ∀ j, 0 ≤ j → j ≤ 7 → r5 (41 + 1 + dep) j = nz (r 40) j ∧ 0 ≤ nz (r 40) j ∧ nz (r 40) j < v + H.length + oA.2.1.length := fun j j0 j1 => by
    rw [b5 (41 + 1 + dep) j (by unfold NBl; omega), a3.2.2.2 (41 + 1 + dep) j (by omega), h5 j j0 j1, hnow j j0 j1]
    have := hb40 j j0 j1
    omega
  have htc : TSC C r5 s t (v_sv (nz (r 40)) t.2.1) (v_sv (nz (r 40)) t.2.2) := ⟨u1, ⟨u2, u3⟩, ⟨u4, u5⟩, e37, e38⟩
  have w0' : t.2.1.1 = 3 → 0 ≤ v_sv (nz (r 40)) t.2.1 ∧ v_sv (nz (r 40)) t.2.1 < v + H.length + oA.2.1.length := fun g => by have := w0 g; omega
  have w1' : t.2.2.1 = 3 → 0 ≤ v_sv (nz (r 40)) t.2.2 ∧ v_sv (nz (r 40)) t.2.2 < v + H.length + oA.2.1.length := fun g => by have := w1 g; omega
  obtain ⟨m1, m2, m3, m4⟩ := md_ok (w := v + H.length + oA.2.1.length) (sx := fun _ => True) (kx := fun _ => True) hd5 b6 eah hnn
  have htd : TSC C (C_md r5 dep) s t (v_sv (nz (r 40)) t.2.1) (v_sv (nz (r 40)) t.2.2) := ⟨u1, ⟨u2, u3⟩, ⟨u4, u5⟩, by rw [C_md_ne (by omega) (by omega)]; exact e37, by rw [C_md_ne (by omega) (by omega)]; exact e38⟩
  obtain ⟨c1, c2, c3, c4, c5, c6, c7, c8, c9, c10⟩ := mk_at (b := 34) m1 htd (Or.inr rfl) w0' w1' (Or.inr rfl)
  rw [← hF] at c1 c5 c7
  rw [m2] at c4
  rw [q_kn_n]
  refine n29_b hc hd5 b6 s0 s1 htc ht t10 t11 (by rw [← hF]; omega) w0' w1' eah hnn ?_
  have e33 : C_md r5 dep 33 s = v := by rw [C_md_ne (by omega) (by omega), b5 33 s (NBl_s (by omega) (by decide))]; exact a6
  have c33 := c10 33 (by decide) (by decide)
  rw [e33] at c33
  generalize C_m1 C (C_m0 C (C_md r5 dep) s 4) s 4 = r8 at *
  generalize q_up (C_mk C (C_md r5 dep) s 4) 34 s (v + H.length + oA.2.1.length) = r9 at *
  have cB := hB sc bb (q_kn sc (D + 4) 29 130 [vr 39, vi s, vi dep, vn, vn, vn] [] (0, 0) Q) r9 (v + H.length + oA.2.1.length + F.length) (s + 1 + oA.2.2.1.length) (k + oA.2.2.2.1.length) (l + oA.2.2.2.2.1.length) ar (cc + 2 + H.length + oA.2.2.2.2.2.length + 1 + F.length) c5 (by omega)
  rw [c4, ← hoB, ← hPB, q1, q2] at cB
  refine cB (by omega) (by omega) (by omega) (by omega) hSB hKB (fun r10 hV10 => ?_)
  clear cB hB
  rw [← q1, ← q2] at hV10
  have hV10' := hV10
  obtain ⟨d1, d2, d3, d4, d5, d6⟩ := hV10'
  rw [q_kn_n]
  have hset : tbits ((PA.1 ++ PB.1).map (fun r => (r.1.1, r.1.2.1))) 0 = tbits (kA ++ kB) 0 := by rw [List.map_append, hPA, hPB, hkA, hkB]
  refine n29_c (L := PA.1 ++ PB.1) (m := nz (r 40)) (one := oA.1) (other := oB.1) hc hd5 d6 s0 hS' ?_ ?_ ?_ (fun j j0 j1 => ?_) hnn (fun j j0 j1 => ?_) (fun j j0 j1 => ?_) ?_ (fun r12 hV12 => ?_)
  · intro y hy
    rcases List.mem_append.mp hy with hy | hy
    · rw [hPA] at hy; exact zA _ _ _ _ y hy
    · rw [hPB] at hy; exact zB _ _ _ _ y hy
  · rw [t11, List.length_append]; omega
  · rw [List.length_append]; omega
  · rw [d5 (41 + 1 + dep) j (by unfold NBl; omega), c3.2.2.2 (41 + 1 + dep) j (by omega), C_md_ne (by omega) (by omega)]
    have := eah j j0 j1
    exact ⟨this.1, this.2.1, by omega⟩
  · rw [d5 (48 + 1 + dep) j (by unfold NBl; omega), c3.2.2.2 (48 + 1 + dep) j (by omega), m3 j j0 j1, ← b4, nz_at j0 j1]
  · rw [← d4, nz_at j0 j1]
  · rw [hset]; omega
  · rw [hset] at hV12 ⊢
    obtain ⟨e1, e2, e3, e4, e5, e6⟩ := hV12
    dsimp only at e1 e4 e6
    refine kk _ ?_
    have row : ∀ a, 30 ≤ a ∧ a ≤ 38 → ¬ a = 31 → ¬ a = 32 → q_up r12 32 s ((v_join (tbits (kA ++ kB) 0) oA.1 oB.1 s 8 0).length : Int) a s = r9 a s := fun a ha n1 n2 => by
      rw [q_up_ne _ _ _ _ n2, e5 a s (NBl_s (by omega) ha), q_up_ne _ _ _ _ n1, d5 a s (NBl_s (by omega) ha)]
    have hlen : (F.length : Int) = H.length := by rw [hF, hH, v_sd_len, v_sd_len]
    have f10 : FR4 (v + H.length + oA.2.1.length + F.length + oB.2.1.length) (fun j => ¬ j = s ∧ j < 1000) (fun j => j < 1000) dep r10 (q_up r12 32 s ((v_join (tbits (kA ++ kB) 0) oA.1 oB.1 s 8 0).length : Int)) :=
      FR4_trans (FR4_row (v := v + H.length + oA.2.1.length + F.length + oB.2.1.length) (sx := fun j => ¬ j = s) (kx := fun _ => True) (dep := dep) (a := 31) (s := s) (by decide) (fun j hj => hj)) (FR4_trans (v := v + H.length + oA.2.1.length + F.length + oB.2.1.length) (sx := fun j => ¬ j = s ∧ j < 1000) (kx := fun j => j < 1000) (dep := dep) (FR4_IVN e5) (FR4_row (v := v + H.length + oA.2.1.length + F.length + oB.2.1.length) (sx := fun j => ¬ j = s) (kx := fun _ => True) (dep := dep) (a := 32) (s := s) (by decide) (fun j hj => hj)) (Int.le_refl _) (Int.le_refl _) (fun j hj => ⟨hj.2, hj.1⟩) (fun j hj => ⟨hj, trivial⟩) (by omega) (Nat.le_refl _)) (Int.le_refl _) (Int.le_refl _) (fun j hj => ⟨hj.1, hj⟩) (fun j hj => ⟨trivial, hj⟩) (Nat.le_refl _) (Nat.le_refl _)
    have f9 : FR4 (v + H.length + oA.2.1.length + F.length) (fun j => ¬ j = s ∧ j < s + 1 + oA.2.2.1.length) (fun j => j < k + oA.2.2.2.1.length) dep r9 (q_up r12 32 s ((v_join (tbits (kA ++ kB) 0) oA.1 oB.1 s 8 0).length : Int)) := FR4_trans (FR4_IVN d5) f10 (Int.le_refl _) (by omega) (fun j hj => ⟨hj.2, hj.1, by omega⟩) (fun j hj => ⟨hj, by omega⟩) (by omega) (Nat.le_refl _)
    have f5 : FR4 (v + H.length + oA.2.1.length) (fun j => ¬ j = s ∧ j < s + 1 + oA.2.2.1.length) (fun j => j < k + oA.2.2.2.1.length) dep r5 (q_up r12 32 s ((v_join (tbits (kA ++ kB) 0) oA.1 oB.1 s 8 0).length : Int)) := FR4_trans m4 (FR4_trans (v := v + H.length + oA.2.1.length) (sx := fun j => ¬ j = s ∧ j < s + 1 + oA.2.2.1.length) (kx := fun j => j < k + oA.2.2.2.1.length) (dep := dep) c3 f9 (Int.le_refl _) (by omega) (fun j hj => ⟨⟨hj.1, by omega⟩, hj⟩) (fun j hj => ⟨by omega, hj⟩) (by omega) (Nat.le_refl _)) (Int.le_refl _) (Int.le_refl _) (fun j hj => ⟨trivial, hj⟩) (fun j hj => ⟨trivial, hj⟩) (Nat.le_refl _) (Nat.le_refl _)
    have f4 : FR4 (v + H.length) (fun j => j < s) (fun j => j < k) dep r4 (q_up r12 32 s ((v_join (tbits (kA ++ kB) 0) oA.1 oB.1 s 8 0).length : Int)) := FR4_trans (FR4_IVN b5) f5 (Int.le_refl _) (by omega) (fun j hj => ⟨by omega, by omega, by omega⟩) (fun j hj => ⟨hj, by omega⟩) (by omega) (Nat.le_refl _)
    refine if_fin (r3 := r3) (r4 := r4) (r5 := r5) (r8 := r8) (r9 := r9) (r10 := r10) (r12 := r12) (sx := fun _ => False) (kx := fun _ => False) a1 ?_ ⟨b1, b2, b3, b4, b5, b6⟩ (FR4_mono f5 (Int.le_refl _) (fun j hj => ⟨by omega, hj.2⟩) (fun j hj => hj) (Nat.le_refl _)) c1 ?_ hV10 (FR4_mono f10 (Int.le_refl _) (fun j hj => ⟨by omega, hj.2⟩) (fun j hj => hj) (Nat.le_refl _)) e1 (FR4_row (by decide) (fun j hj => hj.elim)) ?_ ?_ ?_ ?_ (by omega) (by omega)
    · exact FR4_trans (a2 (v + H.length) (fun _ => False) dep) f4 (Int.le_refl _) (Int.le_refl _) (fun j hj => hj.elim) (fun j hj => hj.elim) (Nat.le_refl _) (Nat.le_refl _)
    · exact FR4_trans (c2 (v + H.length + oA.2.1.length + F.length) (fun _ => False) dep) f9 (Int.le_refl _) (Int.le_refl _) (fun j hj => hj.elim) (fun j hj => hj.elim) (Nat.le_refl _) (Nat.le_refl _)
    · refine ⟨fun h => absurd rfl h, fun _ => ⟨⟨?_, q_up_eq _ _ _ _⟩, ⟨?_, ?_, ?_⟩, ?_, ?_⟩⟩
      · rw [q_up_ne _ _ _ _ (by decide), e5 31 s (NBl_s (by omega) (by decide)), q_up_eq]
      · rw [row 33 (by decide) (by decide) (by decide)]; exact c33
      · rw [row 34 (by decide) (by decide) (by decide)]; exact c6
      · rw [row 35 (by decide) (by decide) (by decide), c7]; exact hlen
      · rw [row 37 (by decide) (by decide) (by decide)]; exact c8
      · rw [row 38 (by decide) (by decide) (by decide)]; exact c9
    · exact FR4_trans h4 (FR4_trans (v := v) (sx := fun j => j < s) (kx := fun j => j < k) (dep := dep) a3 f4 (Int.le_refl _) (by omega) (fun j hj => ⟨⟨by omega, by omega⟩, hj⟩) (fun j hj => ⟨by omega, hj⟩) (by omega) (Nat.le_refl _)) (Int.le_refl _) (Int.le_refl _) (fun j hj => ⟨by omega, hj⟩) (fun j hj => ⟨trivial, hj⟩) (Nat.le_refl _) (Nat.le_refl _)
    · rw [show q_up r12 32 s ((v_join (tbits (kA ++ kB) 0) oA.1 oB.1 s 8 0).length : Int) 40 = r12 40 from funext fun j => q_up_ne _ _ _ _ (by decide)]
      exact e4
    · exact INN_of e6 (q_up_ne _ _ _ _ (by decide)) (fun j _ _ => q_up_ne _ _ _ _ (by decide)) (fun j _ => q_up_ne _ _ _ _ (by decide))
end NUP
