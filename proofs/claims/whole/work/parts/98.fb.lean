/-! ===== a fed byte ===== -/
theorem t8_255 (y : Int32) : y.toInt8.toInt32 &&& nI 255 = y &&& nI 255 := by
  apply Int32.toBitVec_inj.mp
  have h : (nI 255).toBitVec = 255#32 := by decide
  rw [Int32.toBitVec_and, Int32.toBitVec_and, h]
  have h2 : y.toInt8.toInt32.toBitVec = (y.toBitVec.signExtend 8).signExtend 32 := by simp [Int32.toBitVec_toInt8, Int8.toBitVec_toInt32]
  rw [h2]
  apply BitVec.eq_of_getLsbD_eq
  intro i hi
  rw [BitVec.getLsbD_and, BitVec.getLsbD_and]
  by_cases q : i < 8
  · rw [BitVec.getLsbD_signExtend, BitVec.getLsbD_signExtend]
    simp [q, hi]
  · have : (255#32).getLsbD i = false := by
      have hh : ∀ i, i < 32 → ¬ i < 8 → (255#32).getLsbD i = false := by decide
      exact hh i hi q
    rw [this, Bool.and_false, Bool.and_false]
theorem aB_255 (x : Int32) (s : Nat) : aB x s &&& nI 255 = (x >>> (nI s &&& 31)) &&& nI 255 := by
  unfold aB
  rw [t8_255, t8_255]
