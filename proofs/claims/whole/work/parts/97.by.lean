/-! ===== bytes of both tapes ===== -/
theorem b255 (x : Int32) : ∃ n, n < 256 ∧ x &&& nI 255 = nI n := by
  refine ⟨(x &&& nI 255).toBitVec.toNat, ?_, ?_⟩
  · have h : (x &&& nI 255).toBitVec = x.toBitVec &&& (nI 255).toBitVec := rfl
    rw [h, BitVec.toNat_and]
    have h2 : (nI 255).toBitVec.toNat = 255 := by decide
    rw [h2]
    have := @Nat.and_le_right x.toBitVec.toNat 255
    omega
  · apply Int32.toBitVec_inj.mp
    simp [nI]
theorem bm_eq {tb bs : Nat → Int32} {L : Nat} (h : ∀ k, k < L → tb k = bs k &&& nI 255) : bM tb L = bA bs L := by
  funext k
  unfold bM bA
  split
  · exact h k (by assumption)
  · rfl
theorem bm_b {tb bs : Nat → Int32} {L : Nat} (h : ∀ k, k < L → tb k = bs k &&& nI 255) : ∀ k, k < L → ∃ n, n < 256 ∧ tb k = nI n := fun k hk => by
  obtain ⟨n, h1, h2⟩ := b255 (bs k)
  exact ⟨n, h1, (h k hk).trans h2⟩
