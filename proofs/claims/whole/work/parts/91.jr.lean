/-! ===== the reference's read: what its parts ask ===== -/
theorem nt_ok (b : Nat → Int32) (L : Nat) : ∀ m t, t + m = 400 → (kdT b L (ntN b L m t) = 45 ∨ kdT b L (ntN b L m t) = 46) ∧ t ≤ ntN b L m t ∧ ntN b L m t ≤ 400 ∧ ∀ i, t ≤ i → i < ntN b L m t → kdT b L i ≠ 45 ∧ kdT b L i ≠ 46
  | 0, t, h => by
    have h : t = 400 := h
    subst h
    exact ⟨kdT_400 b L, Nat.le_refl _, Nat.le_refl _, fun i h1 h2 => absurd (show i < 400 from h2) (by omega)⟩
  | m + 1, t, h => by
    rw [ntN]
    by_cases r : kdT b L t = 45
    · rw [if_pos r]
      exact ⟨.inl r, Nat.le_refl _, by omega, fun i h1 h2 => absurd h2 (by omega)⟩
    · rw [if_neg r]
      by_cases r2 : kdT b L t = 46
      · rw [if_pos r2]
        exact ⟨.inr r2, Nat.le_refl _, by omega, fun i h1 h2 => absurd h2 (by omega)⟩
      · rw [if_neg r2]
        obtain ⟨h1, h2, h3, h4⟩ := nt_ok b L m (t + 1) (by omega)
        refine ⟨h1, by omega, h3, fun i h5 h6 => ?_⟩
        by_cases q : i = t
        · subst q
          exact ⟨r, r2⟩
        · exact h4 i (by omega) h6
theorem ntT_ok (b : Nat → Int32) (L : Nat) : (kdT b L (ntT b L) = 45 ∨ kdT b L (ntT b L) = 46) ∧ ntT b L ≤ 400 ∧ ∀ i, i < ntT b L → kdT b L i ≠ 45 ∧ kdT b L i ≠ 46 := by
  obtain ⟨h1, _, h3, h4⟩ := nt_ok b L 400 0 rfl
  exact ⟨h1, h3, fun i h => h4 i (Nat.zero_le _) h⟩
def liT (b : Nat → Int32) (L i : Nat) : Nat := cuT b L (i + 1) - frT b L i
theorem jr_F {b : Nat → Int32} {L : Nat} (hL : L ≤ 2000) (ff nf : Nat → Int32) : tkF (saT b L (ntT b L + 1) ff) (nfT b L (ntT b L + 1) nf) (frT b L) (liT b L) (ntT b L) := by
  obtain ⟨_, h2, h3⟩ := ntT_ok b L
  refine ⟨h2, fun i hi => ⟨upto_lt _ _ (by omega), nfT_ok b L nf _ i (by omega) (h3 i hi).1, ?_⟩⟩
  obtain ⟨f1, f2⟩ := frT_b b L i
  have := cuT_b b L (i + 1)
  unfold liT
  omega
theorem jr_C {τ : mxS} {M tp L c L0 : Nat} {tb xs kf ff nf ro me : Nat → Int32} {m0 m3 : Value} {m9 m10 : Int32} {m11 : Value} {m12 : Nat} {m13 m14 m15 : Value} (H : rtC τ M tp L c L0 tb xs kf ff nf ro me m0 m3 m9 m10 m11 m12 m13 m14 m15) : mdC (rsS τ c (kfT (bM tb L) L (ntT (bM tb L) L + 1) kf) (saT (bM tb L) L (ntT (bM tb L) L + 1) ff) (nfT (bM tb L) L (ntT (bM tb L) L + 1) nf) (zeT (ntT (bM tb L) L + 1) ro) (zeT (ntT (bM tb L) L + 1) me)) M c (c + 1) (c + 2) (c + 3) (c + 4) (1000 + τ.2.1) (kdT (bM tb L) L) (ntT (bM tb L) L) (kfT (bM tb L) L (ntT (bM tb L) L + 1) kf) (saT (bM tb L) L (ntT (bM tb L) L + 1) ff) (nfT (bM tb L) L (ntT (bM tb L) L + 1) nf) := by
  obtain ⟨hM, ⟨q0, q1, q2, q3, q4⟩, hT, ⟨uM, uT, hc1, hc2⟩, ⟨oM, oT, oTM⟩, hL, hB, hK⟩ := id H
  have e2 : (rsS τ c (kfT (bM tb L) L (ntT (bM tb L) L + 1) kf) (saT (bM tb L) L (ntT (bM tb L) L + 1) ff) (nfT (bM tb L) L (ntT (bM tb L) L + 1) nf) (zeT (ntT (bM tb L) L + 1) ro) (zeT (ntT (bM tb L) L + 1) me)).2.1 = τ.2.1 + 12 := rfl
  refine ⟨⟨⟨uM.1, by rw [e2]; omega⟩, ⟨by omega, by rw [e2]; omega⟩, ⟨by omega, by rw [e2]; omega⟩, ⟨by omega, by omega, by omega⟩, ⟨by omega, by omega, by omega⟩, by omega, by rw [e2]; omega⟩, ⟨mc_g0 .., mc_g1 .., mc_g2 ..⟩, ⟨⟨by rw [e2]; omega, ⟨by omega, by omega, by omega⟩, by omega⟩, ⟨by rw [e2]; omega, ⟨by omega, by omega, by omega⟩, by omega⟩, ⟨by rw [e2]; omega, ⟨by omega, by omega, by omega⟩, by omega⟩⟩, fun i hi => ⟨upto_lt _ _ (by omega), kdT_b _ _ _⟩, (ntT_ok _ _).2.1⟩
theorem jr_T {τ : mxS} {M tp L c L0 : Nat} {tb xs kf ff nf ro me : Nat → Int32} {m0 m3 : Value} {m9 m10 : Int32} {m11 : Value} {m12 : Nat} {m13 m14 m15 : Value} (H : rtC τ M tp L c L0 tb xs kf ff nf ro me m0 m3 m9 m10 m11 m12 m13 m14 m15) : (rsS τ c (kfT (bM tb L) L (ntT (bM tb L) L + 1) kf) (saT (bM tb L) L (ntT (bM tb L) L + 1) ff) (nfT (bM tb L) L (ntT (bM tb L) L + 1) nf) (zeT (ntT (bM tb L) L + 1) ro) (zeT (ntT (bM tb L) L + 1) me)).1 tp = .inl (0, 2000, .inl tb) ∧ tp < 1000 + (rsS τ c (kfT (bM tb L) L (ntT (bM tb L) L + 1) kf) (saT (bM tb L) L (ntT (bM tb L) L + 1) ff) (nfT (bM tb L) L (ntT (bM tb L) L + 1) nf) (zeT (ntT (bM tb L) L + 1) ro) (zeT (ntT (bM tb L) L + 1) me)).2.1 ∧ (tp ≠ M ∧ tp ≠ c + 4 ∧ tp ≠ c + 3) ∧ ¬ (1000 + τ.2.1 ≤ tp ∧ tp < 1000 + τ.2.1 + 12) := by
  obtain ⟨hM, ⟨q0, q1, q2, q3, q4⟩, hT, ⟨uM, uT, hc1, hc2⟩, ⟨oM, oT, oTM⟩, hL, hB, hK⟩ := id H
  have e2 : (rsS τ c (kfT (bM tb L) L (ntT (bM tb L) L + 1) kf) (saT (bM tb L) L (ntT (bM tb L) L + 1) ff) (nfT (bM tb L) L (ntT (bM tb L) L + 1) nf) (zeT (ntT (bM tb L) L + 1) ro) (zeT (ntT (bM tb L) L + 1) me)).2.1 = τ.2.1 + 12 := rfl
  exact ⟨(mc_o _ _ _ _ _ _ _ oT).trans hT, by rw [e2]; omega, ⟨oTM, by omega, by omega⟩, by omega⟩
/-! ===== the second pass leaves the code ===== -/
def sameCode (R R' : MR) : Prop := rOn R' = rOn R ∧ rOp R' = rOp R ∧ rCo R' = rCo R ∧ rSz R' = rSz R ∧ rRo R' = rRo R
theorem sc_eO {tb : Nat → Int32} {fi li : Nat → Nat} {kf : Nat → Int32} {z i : Nat} {R : MR} : sameCode R (eO tb fi li kf z i R).2 := by
  unfold eO
  split
  · exact ⟨rfl, rfl, rfl, rfl, rfl⟩
  · split
    · split
      · split <;> exact ⟨rfl, rfl, rfl, rfl, rfl⟩
      · exact ⟨rfl, rfl, rfl, rfl, rfl⟩
    · split
      · split <;> exact ⟨rfl, rfl, rfl, rfl, rfl⟩
      · split
        · exact ⟨rfl, rfl, rfl, rfl, rfl⟩
        · split
          · exact ⟨rfl, rfl, rfl, rfl, rfl⟩
          · split
            · split <;> exact ⟨rfl, rfl, rfl, rfl, rfl⟩
            · split <;> exact ⟨rfl, rfl, rfl, rfl, rfl⟩
theorem sc_erL {tb : Nat → Int32} {fi li : Nat → Nat} {kf : Nat → Int32} {zf : Nat → Nat} : ∀ (m : Nat) (R : MR), sameCode R (erL tb fi li kf zf m R).2
  | 0, R => ⟨rfl, rfl, rfl, rfl, rfl⟩
  | m + 1, R => by
    rw [erL]
    split
    · obtain ⟨h1, h2, h3, h4, h5⟩ := sc_erL (tb := tb) (fi := fi) (li := li) (kf := kf) (zf := zf) m (uSk (eO tb fi li kf (zf (rTk R)) (rTk R) R).2)
      obtain ⟨k1, k2, k3, k4, k5⟩ := sc_eO (tb := tb) (fi := fi) (li := li) (kf := kf) (z := zf (rTk R)) (i := rTk R) (R := R)
      exact ⟨h1.trans k1, h2.trans k2, h3.trans k3, h4.trans k4, h5.trans k5⟩
    · exact sc_eO
