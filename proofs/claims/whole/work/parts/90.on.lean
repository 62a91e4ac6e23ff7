/-! ===== the open names of a book ===== -/
def onI (R : MR) (o c : Nat → Nat) : Prop := (∀ k, k < rOp R → rOn R k = nI (o k) ∧ o k < rSz R ∧ rCo R (o k) = nI (c k) ∧ c k ≤ rTk R) ∧ ∀ j k, j < k → k < rOp R → o j < o k
theorem on_word {R : MR} {o c : Nat → Nat} {x : Int32} (h : onI R o c) : onI (uWord x R) o c := by
  refine ⟨fun k hk => ?_, h.2⟩
  obtain ⟨h1, h2, h3, h4⟩ := h.1 k hk
  refine ⟨h1, Nat.lt_succ_of_lt h2, ?_, h4⟩
  show va_up (rCo R) (rSz R) x (o k) = nI (c k)
  rw [va_up_ne _ _ (Nat.ne_of_lt h2)]
  exact h3
theorem on_name {R : MR} {o c : Nat → Nat} (h : onI R o c) : onI (uWord (nI (rTk R)) (uOpen R)) (va_up o (rOp R) (rSz R)) (va_up c (rOp R) (rTk R)) := by
  refine ⟨fun k hk => ?_, fun j k hj hk => ?_⟩
  · have hk : k < rOp R + 1 := hk
    show va_up (rOn R) (rOp R) (nI (rSz R)) k = nI (va_up o (rOp R) (rSz R) k) ∧ va_up o (rOp R) (rSz R) k < rSz R + 1 ∧ va_up (rCo R) (rSz R) (nI (rTk R)) (va_up o (rOp R) (rSz R) k) = nI (va_up c (rOp R) (rTk R) k) ∧ va_up c (rOp R) (rTk R) k ≤ rTk R
    by_cases q : k = rOp R
    · subst q
      rw [va_up_self, va_up_self, va_up_self, va_up_self]
      exact ⟨rfl, Nat.lt_succ_self _, rfl, Nat.le_refl _⟩
    · obtain ⟨h1, h2, h3, h4⟩ := h.1 k (by omega)
      rw [va_up_ne _ _ q, va_up_ne _ _ q, va_up_ne _ _ q, va_up_ne _ _ (Nat.ne_of_lt h2)]
      exact ⟨h1, Nat.lt_succ_of_lt h2, h3, h4⟩
  · have hk : k < rOp R + 1 := hk
    by_cases q : k = rOp R
    · subst q
      rw [va_up_self, va_up_ne _ _ (Nat.ne_of_lt hj)]
      exact (h.1 j hj).2.1
    · rw [va_up_ne _ _ q, va_up_ne _ _ (by omega)]
      exact h.2 j k hj (by omega)
theorem on_step (num : Nat → Int32) (a : PA) {R : MR} {o c : Nat → Nat} (h : onI R o c) : ∃ o' c', onI (stepR num R a) o' c' := by
  obtain ⟨k, x, y, z⟩ := a
  unfold stepR
  dsimp only
  split
  · exact ⟨o, c, fun k hk => ⟨(h.1 k hk).1, (h.1 k hk).2.1, (h.1 k hk).2.2.1, Nat.le_succ_of_le (h.1 k hk).2.2.2⟩, h.2⟩
  · exact ⟨o, c, h⟩
  · exact ⟨o, c, on_word h⟩
  · exact ⟨o, c, on_word h⟩
  · exact ⟨_, _, on_name h⟩
  · exact ⟨o, c, h⟩
  · exact ⟨o, c, h⟩
  · exact ⟨o, c, h⟩
  · exact ⟨o, c, h⟩
  · exact ⟨o, c, h⟩
  · exact ⟨o, c, h⟩
  · exact ⟨o, c, h⟩
theorem on_run (num : Nat → Int32) : ∀ (t : List PA) (R : MR) (o c : Nat → Nat), onI R o c → ∃ o' c', onI (runR num R t) o' c'
  | [], R, o, c, h => ⟨o, c, h⟩
  | a :: t, R, o, c, h => by
    obtain ⟨o', c', h'⟩ := on_step num a h
    exact on_run num t (stepR num R a) o' c' h'
/-- the sizes after a trace -/
theorem sz_run {kd : Nat → Nat} {NT : Nat} (num : Nat → Int32) (hE : kd NT = 45 ∨ kd NT = 46) (hN : NT ≤ 400) : ∀ (t : List PA) (i w o s : Nat) (R : MR), chk kd i w o s t → i + skN t ≤ NT → rTk R = i → rSz R = w → rOp R = o → w ≤ 800 → o ≤ 400 → rSz (runR num R t) ≤ 800 ∧ rOp (runR num R t) ≤ 400
  | [], _, _, _, _, _, _, _, _, h2, h3, hw, ho => ⟨by rw [runR_nil]; omega, by rw [runR_nil]; omega⟩
  | a :: t, i, w, o, s, R, h, hi, h1, h2, h3, hw, ho => by
    have hsf := sf_of num hE hN (a :: t) i w o s R h hi h1 h2 h3
    obtain ⟨⟨c1, c2, c3⟩, hc⟩ := h
    have hs : bSk a + skN t = skN (a :: t) := rfl
    obtain ⟨⟨k1, k2⟩, _⟩ := hsf
    have er : runR num R (a :: t) = runR num (stepR num R a) t := rfl
    have e1 : rTk (stepR num R a) = i + bSk a := by rw [tk_step, h1]; rfl
    have e2 : rSz (stepR num R a) = w + bWd a := by
      obtain ⟨k, x, y, z⟩ := a
      unfold stepR bWd
      dsimp only
      split <;> simp_all [uWord, uOpen, rSz, uSk, uRole, uOB, uOR, uOT, uOE, uDn, uUp]
    have e3 : rOp (stepR num R a) = o + bNm a := by
      obtain ⟨k, x, y, z⟩ := a
      unfold stepR bNm
      dsimp only
      split <;> simp_all [uWord, uOpen, rOp, uSk, uRole, uOB, uOR, uOT, uOE, uDn, uUp]
    have d1 : w + bWd a ≤ 800 := by
      unfold bWd
      split
      · rename_i q
        have := k1 q
        omega
      · omega
    have d2 : o + bNm a ≤ 400 := by
      unfold bNm
      split
      · rename_i q
        have := k2 q
        omega
      · omega
    rw [er]
    exact sz_run num hE hN t _ _ _ _ _ hc (by omega) e1 e2 e3 d1 d2
