theorem ml_bv (x : BitVec 64) (c : Nat) (hc : c + 8 ≤ 64) : x.sshiftRight c &&& 255#64 = ((x >>> c).setWidth 32 &&& 255#32).setWidth 64 := by
  have h255 : ∀ j : Nat, j < 64 → (255#64).getLsbD j = decide (j < 8) := by decide +kernel
  have h255' : ∀ j : Nat, j < 32 → (255#32).getLsbD j = decide (j < 8) := by decide +kernel
  apply BitVec.eq_of_getLsbD_eq
  intro i hi
  rw [BitVec.getLsbD_and, h255 i hi, BitVec.getLsbD_setWidth, BitVec.getLsbD_and, decide_eq_true hi, Bool.true_and]
  by_cases h8 : i < 8
  · rw [h255' i (by omega), decide_eq_true h8, Bool.and_true, Bool.and_true, BitVec.getLsbD_setWidth, decide_eq_true (show i < 32 by omega), Bool.true_and, BitVec.getLsbD_ushiftRight, BitVec.getLsbD_sshiftRight]
    simp [show ¬ 64 ≤ i by omega, show c + i < 64 by omega]
  · rw [decide_eq_false h8, Bool.and_false]
    by_cases h32 : i < 32
    · rw [h255' i h32, decide_eq_false h8, Bool.and_false]
    · rw [BitVec.getLsbD_of_ge (255#32) i (by omega), Bool.and_false]
theorem by_sh : ∀ k : Nat, k < 8 → (((8 * nI k).toInt64.toUInt64 &&& Int64.toUInt64 63).toBitVec % 64).toNat = 8 * k := by decide +kernel
theorem ml_sh : ∀ k : Nat, k < 8 → (((8 * nI k).toInt64 &&& 63).toBitVec.smod 64).toNat = 8 * k := by decide +kernel
theorem by_bv (x : Int64) (k : Nat) (hk : k < 8) : (BY x (nI k)).toBitVec = (x.toBitVec >>> (8 * k)).setWidth 32 &&& 255#32 := by
  have h := by_sh k hk
  unfold BY
  generalize (8 * nI k).toInt64.toUInt64 &&& Int64.toUInt64 63 = d at h ⊢
  rw [Int32.toBitVec_and, Int64.toBitVec_toInt32, UInt64.toBitVec_toInt64, UInt64.toBitVec_shiftRight, BitVec.ushiftRight_eq', h, BitVec.signExtend_eq_setWidth_of_le _ (by decide), Int64.toBitVec_toUInt64]
  rfl
theorem ml_b2 (x : Int64) (k : Nat) (hk : k < 8) : (x >>> ((8 * nI k).toInt64 &&& 63) &&& 255).toBitVec = x.toBitVec.sshiftRight (8 * k) &&& 255#64 := by
  have h := ml_sh k hk
  generalize (8 * nI k).toInt64 &&& 63 = d at h ⊢
  rw [Int64.toBitVec_and, Int64.toBitVec_shiftRight, BitVec.sshiftRight_eq', h]
  rfl
