/-- what stays: versions, makings, checks, all else -/
def FR4 (v : Int) (sx kx : Int → Prop) (dep : Nat) (r r' : St) : Prop := (∀ a j, 10 ≤ a ∧ a ≤ 26 → j < v → r' a j = r a j) ∧ (∀ a j, 30 ≤ a ∧ a ≤ 38 → sx j → r' a j = r a j) ∧ (∀ a j, 28 ≤ a ∧ a ≤ 29 → kx j → r' a j = r a j) ∧ (∀ a j, (42 ≤ a ∧ a < 42 + dep ∧ a ≤ 47) ∨ (49 ≤ a ∧ a < 49 + dep ∧ a ≤ 54) ∨ a < 9 ∨ a = 27 ∨ a = 39 ∨ 55 ≤ a → r' a j = r a j)
section NUK
variable {C r r' r1 r2 r3 r4 r5 r8 r9 r10 r12 r13 : St} {i v v' v1 v2 s k l x n fr how ar cc af set f z : Int} {sx kx sx1 kx1 sx2 kx2 : Int → Prop} {dep dp a d1 d2 : Nat} {o oA oB : NO} {g : Int → Int} {t : TT} {sv0 sv1 : Int}
theorem FR4_trans (h1 : FR4 v1 sx1 kx1 d1 r r1) (h2 : FR4 v2 sx2 kx2 d2 r1 r2) (hv1 : v ≤ v1) (hv2 : v ≤ v2) (hs : ∀ j, sx j → sx1 j ∧ sx2 j) (hk : ∀ j, kx j → kx1 j ∧ kx2 j) (hd1 : dep ≤ d1) (hd2 : dep ≤ d2) : FR4 v sx kx dep r r2 := by
  obtain ⟨a1, a2, a3, a4⟩ := h1
  obtain ⟨b1, b2, b3, b4⟩ := h2
  refine ⟨fun a j ha hj => ?_, fun a j ha hj => ?_, fun a j ha hj => ?_, fun a j ha => ?_⟩
  · rw [b1 a j ha (by omega), a1 a j ha (by omega)]
  · rw [b2 a j ha (hs j hj).2, a2 a j ha (hs j hj).1]
  · rw [b3 a j ha (hk j hj).2, a3 a j ha (hk j hj).1]
  · rw [b4 a j (by omega), a4 a j (by omega)]
theorem FR4_refl : FR4 v sx kx dep r r := ⟨fun _ _ _ _ => rfl, fun _ _ _ _ => rfl, fun _ _ _ _ => rfl, fun _ _ _ => rfl⟩
theorem FR4_IVN (h : IVN v s k dep r r') : FR4 v (fun j => j < s) (fun j => j < k) dep r r' :=
  ⟨fun a j ha hj => h a j (NBl_v hj ha), fun a j ha hj => h a j (NBl_s hj ha), fun a j ha hj => h a j (NBl_k hj ha), fun a j ha => h a j (by unfold NBl; omega)⟩
theorem FR4_to (h : FR4 v (fun j => j < s) (fun j => j < k) dep r r') : IVN v s k dep r r' := by
  intro a i hb
  obtain ⟨h1, h2, h3, h4⟩ := h
  unfold NBl at hb
  rcases hb with ⟨p, q, u⟩ | ⟨p, q, u⟩ | ⟨p, q, u⟩ | hb
  · exact h1 a i ⟨p, q⟩ u
  · exact h2 a i ⟨p, q⟩ u
  · exact h3 a i ⟨p, q⟩ u
  · exact h4 a i hb
/-- with all rows -/
theorem FR4_all (h : IVN v 1000 1000 100 r r') (hs : ∀ j, sx j → j < 1000) (hk : ∀ j, kx j → j < 1000) (hd : dep ≤ 100) : FR4 v sx kx dep r r' := by
  obtain ⟨h1, h2, h3, h4⟩ := FR4_IVN h
  exact ⟨h1, fun a j ha hj => h2 a j ha (hs j hj), fun a j ha hj => h3 a j ha (hk j hj), fun a j ha => h4 a j (by omega)⟩
theorem FR4_row (ha : 30 ≤ a ∧ a ≤ 38) (hs : ∀ j, sx j → ¬ j = s) : FR4 v sx kx dep r (q_up r a s z) :=
  ⟨fun b j hb _ => q_up_ne _ _ _ _ (by omega), fun b j hb hj => by unfold q_up; rw [if_neg (fun h => hs j hj h.2)], fun b j hb _ => q_up_ne _ _ _ _ (by omega), fun b j hb => q_up_ne _ _ _ _ (by omega)⟩
theorem FR4_cp (ha : a = 40 ∨ (42 + dep ≤ a ∧ a ≤ 47) ∨ (49 + dep ≤ a ∧ a ≤ 54)) : FR4 v sx kx dep r (q_upf r a g) :=
  ⟨fun b j hb _ => q_upf_ne _ _ _ (by omega), fun b j hb _ => q_upf_ne _ _ _ (by omega), fun b j hb _ => q_upf_ne _ _ _ (by omega), fun b j hb => q_upf_ne _ _ _ (by omega)⟩
theorem FR4_v {L : List VR} (h : TAB (VRokC r) v L) (hf : FR4 v' sx kx dep r r') (hv : v + L.length ≤ v') : TAB (VRokC r') v L := TABv_up h (fun a j ha hj => hf.1 a j ha (by omega))
theorem FR4_m {L : List MR} (h : TAB (MRokC r) s L) (hf : FR4 v' sx kx dep r r') (hs : ∀ j, s ≤ j → j < s + L.length → sx j) : TAB (MRokC r') s L := TABm_up h (fun a j ha h1 h2 => hf.2.1 a j ha (hs j h1 h2))
theorem FR4_c {L : List NC} (h : TAB (NCokC r) k L) (hf : FR4 v' sx kx dep r r') (hs : ∀ j, k ≤ j → j < k + L.length → kx j) : TAB (NCokC r') k L := TABc_up h (fun a j ha h1 h2 => hf.2.2.1 a j ha (hs j h1 h2))
/-- all of if -/
theorem if_fin {H F J : List VR} {mr : MR} {l : List NP} {cd : List CD} {fin : Int → Int}
    (hH : TAB (VRokC r3) v H) (f3 : FR4 (v + H.length) sx kx dep r3 r13)
    (hA : VOC r4 r5 (v + H.length) (s + 1) k (dep + 1) oA) (f5 : FR4 (v + H.length + oA.2.1.length) (fun j => s < j ∧ j < s + 1 + oA.2.2.1.length) (fun j => j < k + oA.2.2.2.1.length) dep r5 r13)
    (hF : TAB (VRokC r8) (v + H.length + oA.2.1.length) F) (f8 : FR4 (v + H.length + oA.2.1.length + F.length) sx kx dep r8 r13)
    (hB : VOC r9 r10 (v + H.length + oA.2.1.length + F.length) (s + 1 + oA.2.2.1.length) (k + oA.2.2.2.1.length) (dep + 1) oB) (f10 : FR4 (v + H.length + oA.2.1.length + F.length + oB.2.1.length) (fun j => s < j ∧ j < 1000) (fun j => j < 1000) dep r10 r13)
    (hJ : TAB (VRokC r12) (v + H.length + oA.2.1.length + F.length + oB.2.1.length) J) (f12 : FR4 (v + H.length + oA.2.1.length + F.length + oB.2.1.length + J.length) sx kx dep r12 r13)
    (hm : MRokC r13 s mr) (f0 : FR4 v (fun j => j < s) (fun j => j < k) dep r r13) (hz : nz (r13 40) = fin) (hI : INN r13 (v + H.length + oA.2.1.length + F.length + oB.2.1.length + J.length)) (hs : s + 1 + oA.2.2.1.length + oB.2.2.1.length ≤ 1000) (hk : k + oA.2.2.2.1.length + oB.2.2.2.1.length ≤ 1000) :
    VOC r r13 v s k dep (fin, H ++ (oA.2.1 ++ (F ++ (oB.2.1 ++ J))), mr :: (oA.2.2.1 ++ oB.2.2.1), oA.2.2.2.1 ++ oB.2.2.2.1, l, cd) := by
  obtain ⟨a1, a2, a3, a4, a5, a6⟩ := hA
  obtain ⟨b1, b2, b3, b4, b5, b6⟩ := hB
  refine ⟨?_, ⟨hm, ?_⟩, ?_, hz, FR4_to f0, ?_⟩
  · dsimp only
    refine (TAB_app _ _ _).mpr ⟨FR4_v hH f3 (by omega), (TAB_app _ _ _).mpr ⟨FR4_v a1 f5 (by omega), (TAB_app _ _ _).mpr ⟨FR4_v hF f8 (by omega), (TAB_app _ _ _).mpr ⟨FR4_v b1 f10 (by omega), FR4_v hJ f12 (by omega)⟩⟩⟩⟩
  · refine (TAB_app _ _ _).mpr ⟨FR4_m a2 f5 (fun j h1 h2 => ⟨by omega, by omega⟩), FR4_m b2 f10 (fun j h1 h2 => ⟨by omega, by omega⟩)⟩
  · dsimp only
    exact (TAB_app _ _ _).mpr ⟨FR4_c a3 f5 (fun j h1 h2 => by omega), FR4_c b3 f10 (fun j h1 h2 => by omega)⟩
  · dsimp only
    have e : v + ((H ++ (oA.2.1 ++ (F ++ (oB.2.1 ++ J)))).length : Nat) = v + H.length + oA.2.1.length + F.length + oB.2.1.length + J.length := by
      simp only [List.length_append]
      omega
    rw [e]
    exact hI
end NUK
