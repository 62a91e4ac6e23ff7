/-! ===== both tapes are fed alike ===== -/
theorem apB_lt {bs : Nat → Int32} {L j : Nat} {x : Int32} (h : j < L) : apB bs L x j = bs j := by
  unfold apB
  rw [va_up_ne _ _ (by omega), va_up_ne _ _ (by omega), va_up_ne _ _ (by omega), va_up_ne _ _ (by omega)]
theorem apB_0 {bs : Nat → Int32} {L : Nat} {x : Int32} : apB bs L x L = aB x 24 ∧ apB bs L x (L + 1) = aB x 16 ∧ apB bs L x (L + 2) = aB x 8 ∧ apB bs L x (L + 3) = aB x 0 := by
  unfold apB
  refine ⟨?_, ?_, ?_, ?_⟩
  · rw [va_up_ne _ _ (by omega), va_up_ne _ _ (by omega), va_up_ne _ _ (by omega), va_up_self]
  · rw [va_up_ne _ _ (by omega), va_up_ne _ _ (by omega), va_up_self]
  · rw [va_up_ne _ _ (by omega), va_up_self]
  · rw [va_up_self]
theorem fd_b {F : Nat → Int32} {q r : Nat} (hr : r < 4) : fdB F (4 * q + r) = aB (F q) (24 - 8 * r) &&& nI 255 := by
  rw [aB_255]
  unfold fdB
  rw [show (4 * q + r) / 4 = q by omega, show (4 * q + r) % 4 = r by omega]
theorem fd_w {bs : Nat → Int32} {F : Nat → Int32} {L q : Nat} {x : Int32} (hx : F q = x) : ∀ r, r < 4 → fdB F (4 * q + r) = apB bs (L + 4 * q) x (L + (4 * q + r)) &&& nI 255 := by
  intro r hr
  obtain ⟨h0, h1, h2, h3⟩ := apB_0 (bs := bs) (L := L + 4 * q) (x := x)
  rw [fd_b hr, hx, ← Nat.add_assoc]
  obtain rfl | rfl | rfl | rfl : r = 0 ∨ r = 1 ∨ r = 2 ∨ r = 3 := by omega
  · rw [Nat.add_zero, h0]
  · rw [h1]
  · rw [h2]
  · rw [h3]
theorem fed_b {tb bs : Nat → Int32} {L : Nat} {a b c e f : Int32} (h : ∀ j, j < L → tb j = bs j &&& nI 255) : ∀ j, j < L + 20 → fdT tb L (fdF a b c e f) 20 j = ap5 bs L a b c e f j &&& nI 255 := by
  intro j hj
  unfold fdT
  by_cases q : L ≤ j
  · rw [if_pos ⟨q, hj⟩]
    obtain ⟨i, hi, rfl⟩ : ∃ i, i < 20 ∧ j = L + i := ⟨j - L, by omega, by omega⟩
    rw [Nat.add_sub_cancel_left]
    obtain ⟨k, r, hr, rfl⟩ : ∃ k r, r < 4 ∧ i = 4 * k + r := ⟨i / 4, i % 4, by omega, by omega⟩
    unfold ap5
    have x0 : fdF a b c e f 0 = a := rfl
    have x1 : fdF a b c e f 1 = b := rfl
    have x2 : fdF a b c e f 2 = c := rfl
    have x3 : fdF a b c e f 3 = e := rfl
    have x4 : fdF a b c e f 4 = f := rfl
    obtain rfl | rfl | rfl | rfl | rfl : k = 0 ∨ k = 1 ∨ k = 2 ∨ k = 3 ∨ k = 4 := by omega
    · rw [apB_lt (by omega), apB_lt (by omega), apB_lt (by omega), apB_lt (by omega)]
      exact fd_w (L := L) x0 r hr
    · rw [apB_lt (by omega), apB_lt (by omega), apB_lt (by omega)]
      exact fd_w (L := L) x1 r hr
    · rw [apB_lt (by omega), apB_lt (by omega)]
      exact fd_w (L := L) x2 r hr
    · rw [apB_lt (by omega)]
      exact fd_w (L := L) x3 r hr
    · exact fd_w (L := L) x4 r hr
  · rw [if_neg (fun z => q z.1)]
    unfold ap5
    rw [apB_lt (by omega), apB_lt (by omega), apB_lt (by omega), apB_lt (by omega), apB_lt (by omega)]
    exact h j (by omega)
