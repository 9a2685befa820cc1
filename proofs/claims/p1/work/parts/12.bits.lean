
theorem ml_bv (x : BitVec 64) (c : Nat) (hc : c + 8 ≤ 64) : x.sshiftRight c &&& 255#64 = ((x >>> c).setWidth 32 &&& 255#32).setWidth 64 := by
  ext i hi
  have h255 : ∀ j : Nat, j < 64 → (255#64).getLsbD j = decide (j < 8) := by decide
  have h255' : ∀ j : Nat, j < 32 → (255#32).getLsbD j = decide (j < 8) := by decide
  by_cases h8 : i < 8
  · simp [BitVec.getLsbD_sshiftRight, h8, hi, show c + i < 64 by omega, show ¬ 64 ≤ i by omega, show i < 32 by omega]
  · simp only [BitVec.getElem_and, BitVec.getElem_setWidth]
    rw [← BitVec.getLsbD_eq_getElem (x := 255#64) hi, h255 i hi, decide_eq_false h8]
    by_cases h32 : i < 32
    · rw [BitVec.getLsbD_and, h255' i h32, decide_eq_false h8]; simp
    · rw [BitVec.getLsbD_of_ge _ _ (by omega)]; simp