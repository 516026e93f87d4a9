/-! Bits of a mask -/
def bt (x : Int32) (j : Nat) : Bool := x.toBitVec.getLsbD j
theorem sh1 : ∀ k, k < 12 → (1 : Int32) <<< (nI k &&& 31) = nI (2 ^ k) := by decide +kernel
theorem sh2 : ∀ k, k < 12 → nI k &&& 31 = nI k := by decide +kernel
theorem sh3 : (-1 : Int32) &&& 31 = nI 31 := by decide +kernel
theorem sh4 : ∀ k, k < 32 → (nI k).toBitVec.smod 32 = BitVec.ofNat 32 k := by decide +kernel
theorem bt_two {k j : Nat} (hk : k < 12) : bt (nI (2 ^ k)) j = decide (k = j) := by
  have e : (nI (2 ^ k)).toBitVec = BitVec.ofNat 32 (2 ^ k) := rfl
  rw [bt, e, BitVec.getLsbD_ofNat, Nat.testBit_two_pow]
  by_cases h : k = j
  · subst h
    simp only [decide_true, Bool.and_true]
    exact decide_eq_true (by omega)
  · rw [decide_eq_false h, Bool.and_false]
theorem bt_or (x y : Int32) (j : Nat) : bt (x ||| y) j = (bt x j || bt y j) := by
  rw [bt, Int32.toBitVec_or, BitVec.getLsbD_or]; rfl
theorem bt_zero (j : Nat) : bt 0 j = false := by
  show (0#32).getLsbD j = false
  exact BitVec.getLsbD_zero
theorem bt_test {x s : Int32} {j : Nat} (hj : j < 32) (hs : s = nI j) : ((x >>> s) &&& 1 = 0) ↔ bt x j = false := by
  subst hs
  have e1 : (x >>> nI j).toBitVec = x.toBitVec.sshiftRight j := by
    rw [Int32.toBitVec_shiftRight, sh4 j hj, BitVec.sshiftRight_eq', BitVec.toNat_ofNat, Nat.mod_eq_of_lt (by omega)]
  rw [← Int32.toBitVec_inj, Int32.toBitVec_and, e1]
  show (x.toBitVec.sshiftRight j &&& 1#32) = 0#32 ↔ _
  have e2 : (x.toBitVec.sshiftRight j).getLsbD 0 = x.toBitVec.getLsbD j := by
    rw [BitVec.getLsbD_sshiftRight, Nat.add_zero, if_pos hj]
    simp
  rw [bt, ← e2]
  generalize x.toBitVec.sshiftRight j = v
  rw [← BitVec.toNat_inj, BitVec.toNat_and]
  show v.toNat &&& 1 = 0 ↔ v.toNat.testBit 0 = false
  rw [Nat.and_one_is_mod, Nat.testBit_zero, decide_eq_false_iff_not]
  omega
