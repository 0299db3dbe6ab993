/-! bytes of numbers -/
def bR (x s : Int) : Int := (q_I (q_I x >>> (q_I s &&& 31)).toInt).toInt8.toInt32.toInt
def bC (x s : Int) : Int := (q_I ((q_I x).toUInt32 >>> ((q_I s).toUInt32 &&& Int32.toUInt32 31)).toInt32.toInt &&& q_I 255).toInt
theorem bR_eq {x s : Int} {k : Nat} (hk : k < 32) (hs : ((q_I s &&& 31).toBitVec.smod 32) = BitVec.ofNat 32 k) : bR x s = ((q_I x).toBitVec.toInt >>> k).bmod 256 := by
  unfold bR q_I
  rw [Int32.ofInt_toInt, Int8.toInt_toInt32, Int32.toInt_toInt8]
  have e : (Int32.ofInt x >>> (Int32.ofInt s &&& 31)).toInt = (Int32.ofInt x).toBitVec.toInt >>> k := by
    rw [← Int32.toInt_toBitVec, Int32.toBitVec_shiftRight]
    have hs' : ((Int32.ofInt s &&& 31).toBitVec.smod 32) = BitVec.ofNat 32 k := hs
    rw [hs', BitVec.sshiftRight_eq', BitVec.toInt_sshiftRight]
    congr 1
    rw [BitVec.toNat_ofNat]; omega
  rw [e]
theorem bC_eq {x s : Int} {k : Nat} (hk : k < 32) (hs : (((q_I s).toUInt32 &&& Int32.toUInt32 31).toNat % 32) = k) : bC x s = (((q_I x).toBitVec.toNat / 2 ^ k) % 256 : Nat) := by
  unfold bC q_I
  rw [Int32.ofInt_toInt]
  have e : ((((Int32.ofInt x).toUInt32 >>> ((Int32.ofInt s).toUInt32 &&& Int32.toUInt32 31)).toInt32) &&& Int32.ofInt 255).toBitVec = BitVec.ofNat 32 (((Int32.ofInt x).toBitVec.toNat / 2 ^ k) % 256) := by
    apply BitVec.eq_of_toNat_eq
    have h1 : ((((Int32.ofInt x).toUInt32 >>> ((Int32.ofInt s).toUInt32 &&& Int32.toUInt32 31)).toInt32) &&& Int32.ofInt 255).toBitVec.toNat = ((Int32.ofInt x).toUInt32 >>> ((Int32.ofInt s).toUInt32 &&& Int32.toUInt32 31)).toNat &&& 255 := rfl
    have hs' : (((Int32.ofInt s).toUInt32 &&& Int32.toUInt32 31).toNat % 32) = k := hs
    have h3 : (Int32.ofInt x).toUInt32.toNat = (Int32.ofInt x).toBitVec.toNat := rfl
    rw [h1, UInt32.toNat_shiftRight, hs', Nat.shiftRight_eq_div_pow, h3, show (255 : Nat) = 2 ^ 8 - 1 from rfl, Nat.and_two_pow_sub_one_eq_mod, BitVec.toNat_ofNat]
    have : (Int32.ofInt x).toBitVec.toNat / 2 ^ k % 2 ^ 8 < 2 ^ 8 := Nat.mod_lt _ (by decide)
    rw [show (256 : Nat) = 2 ^ 8 from rfl]
    omega
  rw [← Int32.toInt_toBitVec, e]
  have : (Int32.ofInt x).toBitVec.toNat / 2 ^ k % 256 < 256 := Nat.mod_lt _ (by decide)
  rw [BitVec.toInt_eq_toNat_of_lt (by rw [BitVec.toNat_ofNat]; omega), BitVec.toNat_ofNat]
  rw [Nat.mod_eq_of_lt (by omega)]
theorem b_CR {x s : Int} (hs : s = 0 ∨ s = 8 ∨ s = 16 ∨ s = 24) : bC x s = (if bR x s < 0 then bR x s + 256 else bR x s) ∧ -128 ≤ bR x s ∧ bR x s ≤ 127 := by
  have key : ∀ k : Nat, (k = 0 ∨ k = 8 ∨ k = 16 ∨ k = 24) → bR x s = ((q_I x).toBitVec.toInt >>> k).bmod 256 → bC x s = (((q_I x).toBitVec.toNat / 2 ^ k) % 256 : Nat) → bC x s = (if bR x s < 0 then bR x s + 256 else bR x s) ∧ -128 ≤ bR x s ∧ bR x s ≤ 127 := by
    intro k hk e1 e2
    have hN := (q_I x).toBitVec.isLt
    have hT := BitVec.toInt_eq_toNat_cond (q_I x).toBitVec
    rw [e1, e2, Int.shiftRight_eq_div_pow]
    generalize (q_I x).toBitVec.toNat = N at *
    generalize (q_I x).toBitVec.toInt = T at *
    have hb : ∀ Z : Int, Z.bmod 256 = if Z % 256 < 128 then Z % 256 else Z % 256 - 256 := fun Z => by unfold Int.bmod; rfl
    rw [hb]
    rcases hk with rfl | rfl | rfl | rfl
    · split at hT <;> split <;> split <;> omega
    · split at hT <;> split <;> split <;> omega
    · split at hT <;> split <;> split <;> omega
    · split at hT <;> split <;> split <;> omega
  rcases hs with rfl | rfl | rfl | rfl
  · exact key 0 (by decide) (bR_eq (by decide) rfl) (bC_eq (by decide) rfl)
  · exact key 8 (by decide) (bR_eq (by decide) rfl) (bC_eq (by decide) rfl)
  · exact key 16 (by decide) (bR_eq (by decide) rfl) (bC_eq (by decide) rfl)
  · exact key 24 (by decide) (bR_eq (by decide) rfl) (bC_eq (by decide) rfl)
