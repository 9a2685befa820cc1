theorem ml_bv (x : BitVec 64) (c : Nat) (hc : c + 8 ≤ 64) : x.sshiftRight c &&& 255#64 = ((x >>> c).setWidth 32 &&& 255#32).setWidth 64 := by
  have h255 : ∀ j : Nat, j < 64 → (255#64).getLsbD j = decide (j < 8) := by decide +kernel
  have h255' : ∀ j : Nat, j < 32 → (255#32).getLsbD j = decide (j < 8) := by decide +kernel
  apply BitVec.eq_of_getLsbD_eq
  intro i hi
  rw [BitVec.getLsbD_and, h255 i hi, BitVec.getLsbD_setWidth, BitVec.getLsbD_and, decide_eq_true hi, Bool.true_and]
  by_cases h8 : i < 8
  · rw [h255' i (by omega), decide_eq_true h8, Bool.and_true, Bool.and_true, BitVec.getLsbD_setWidth, decide_eq_true (show i < 32 by omega), Bool.true_and, BitVec.getLsbD_ushiftRight, BitVec.getLsbD_sshiftRight]
    simp [show ¬ 64 ≤ i by omega, show c + i < 64 by omega]
  · rw [decide_eq_false h8, Bool.and_false]
    by_cases h32 : i < 32
    · rw [h255' i h32, decide_eq_false h8, Bool.and_false]
    · rw [BitVec.getLsbD_of_ge (255#32) i (by omega), Bool.and_false]
theorem by_sh : ∀ k : Nat, k < 8 → (((8 * nI k).toInt64.toUInt64 &&& Int64.toUInt64 63).toBitVec % 64).toNat = 8 * k := by decide +kernel
theorem ml_sh : ∀ k : Nat, k < 8 → (((8 * nI k).toInt64 &&& 63).toBitVec.smod 64).toNat = 8 * k := by decide +kernel
theorem by_bv (x : Int64) (k : Nat) (hk : k < 8) : (BY x (nI k)).toBitVec = (x.toBitVec >>> (8 * k)).setWidth 32 &&& 255#32 := by
  have h := by_sh k hk
  unfold BY
  generalize (8 * nI k).toInt64.toUInt64 &&& Int64.toUInt64 63 = d at h ⊢
  rw [Int32.toBitVec_and, Int64.toBitVec_toInt32, UInt64.toBitVec_toInt64, UInt64.toBitVec_shiftRight, BitVec.ushiftRight_eq', h, BitVec.signExtend_eq_setWidth_of_le _ (by decide), Int64.toBitVec_toUInt64]
  rfl
theorem ml_b2 (x : Int64) (k : Nat) (hk : k < 8) : (x >>> ((8 * nI k).toInt64 &&& 63) &&& 255).toBitVec = x.toBitVec.sshiftRight (8 * k) &&& 255#64 := by
  have h := ml_sh k hk
  generalize (8 * nI k).toInt64 &&& 63 = d at h ⊢
  rw [Int64.toBitVec_and, Int64.toBitVec_shiftRight, BitVec.sshiftRight_eq', h]
  rfl
theorem by_nI (n : Nat) : (nI n).toBitVec = BitVec.ofNat 32 n := rfl
theorem by_lN (n : Nat) : (lN n).toBitVec = BitVec.ofNat 64 n := rfl
theorem by_val (x : Int64) {k : Nat} (hk : k < 8) : ∃ v : Nat, v < 256 ∧ BY x (nI k) = nI v ∧ (x >>> ((8 * nI k).toInt64 &&& 63) &&& 255) = lN v := by
  refine ⟨((x.toBitVec >>> (8 * k)).setWidth 32 &&& 255#32).toNat, ?_, ?_, ?_⟩
  · rw [BitVec.toNat_and]
    exact Nat.lt_of_le_of_lt Nat.and_le_right (by decide)
  · apply Int32.toBitVec_inj.mp
    rw [by_bv x k hk, by_nI, BitVec.ofNat_toNat, BitVec.setWidth_eq]
  · apply Int64.toBitVec_inj.mp
    rw [ml_b2 x k hk, ml_bv _ _ (by omega), by_lN, BitVec.ofNat_toNat]
theorem okb_iff {x : Int64} {k v : Nat} (hv : v < 256) (e : BY x (nI k) = nI v) : OKB x k ↔ 32 ≤ v ∧ v ≤ 126 := by
  unfold OKB
  rw [e]
  exact and_congr (nI_leI (a := 32) (by decide) (by omega)) (nI_leI (b := 126) (by omega) (by decide))
theorem lo_iff {y : Int64} {v : Nat} (hv : v < 256) (e : y = lN v) : lg_cmp y 32 < 0 ↔ v < 32 := by
  rw [lg_cmp_lt, e]
  exact lN_lt (b := 32) (by omega) (by decide)
theorem hi_iff {y : Int64} {v : Nat} (hv : v < 256) (e : y = lN v) : 0 < lg_cmp y 126 ↔ 126 < v := by
  rw [lg_cmp_gt, e]
  exact lN_lt (a := 126) (by decide) (by omega)
