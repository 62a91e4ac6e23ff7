/-! ===== the reference is taught: the three ends ===== -/
theorem j_good {d : Nat} {τ : mxS} {M tp L c L0 : Nat} {tb xs kf ff nf ro me : Nat → Int32} {m0 m3 : Value} {m9 m10 : Int32} {m11 : Value} {m12 : Nat} {m13 m14 m15 : Value} (H : rtC τ M tp L c L0 tb xs kf ff nf ro me m0 m3 m9 m10 m11 m12 m13 m14 m15) (hd : 88 ≤ d) (hok : okB (bM tb L) L = true) (hg : (P2B tb (bM tb L) L (kfT (bM tb L) L (ntT (bM tb L) L + 1) kf) (zeT (ntT (bM tb L) L + 1) ro) (zeT (ntT (bM tb L) L + 1) me)).1 = nI 0) {Q : Option Value ⊕ Nat → mxS → Prop} : WP d 1581 0 [some (.ref M), none, none] [] τ Q = Q (.inl (some (.int (nI 0)))) (mdW (rsS τ c (kfT (bM tb L) L (ntT (bM tb L) L + 1) kf) (saT (bM tb L) L (ntT (bM tb L) L + 1) ff) (nfT (bM tb L) L (ntT (bM tb L) L + 1) nf) (zeT (ntT (bM tb L) L + 1) ro) (zeT (ntT (bM tb L) L + 1) me)) m0 (.ref tp) (.int (nI L)) m3 m11 m13 m14 m15 M c (c + 1) (c + 2) (c + 3) (c + 4) (1000 + τ.2.1) (opN (oF (P2B tb (bM tb L) L (kfT (bM tb L) L (ntT (bM tb L) L + 1) kf) (zeT (ntT (bM tb L) L + 1) ro) (zeT (ntT (bM tb L) L + 1) me)).2) (cF (P2B tb (bM tb L) L (kfT (bM tb L) L (ntT (bM tb L) L + 1) kf) (zeT (ntT (bM tb L) L + 1) ro) (zeT (ntT (bM tb L) L + 1) me)).2) (rOp (P2B tb (bM tb L) L (kfT (bM tb L) L (ntT (bM tb L) L + 1) kf) (zeT (ntT (bM tb L) L + 1) ro) (zeT (ntT (bM tb L) L + 1) me)).2) 0 (P2B tb (bM tb L) L (kfT (bM tb L) L (ntT (bM tb L) L + 1) kf) (zeT (ntT (bM tb L) L + 1) ro) (zeT (ntT (bM tb L) L + 1) me)).2)) := j_yes H hd hok (fun _ => rfl) (fun h => absurd hg h)
theorem j_bad {d : Nat} {τ : mxS} {M tp L c L0 : Nat} {tb xs kf ff nf ro me : Nat → Int32} {m0 m3 : Value} {m9 m10 : Int32} {m11 : Value} {m12 : Nat} {m13 m14 m15 : Value} (H : rtC τ M tp L c L0 tb xs kf ff nf ro me m0 m3 m9 m10 m11 m12 m13 m14 m15) (hd : 88 ≤ d) (hok : okB (bM tb L) L = true) (hb : ¬ (P2B tb (bM tb L) L (kfT (bM tb L) L (ntT (bM tb L) L + 1) kf) (zeT (ntT (bM tb L) L + 1) ro) (zeT (ntT (bM tb L) L + 1) me)).1 = nI 0) {Q : Option Value ⊕ Nat → mxS → Prop} : WP d 1581 0 [some (.ref M), none, none] [] τ Q = Q (.inl (some (.int (P2B tb (bM tb L) L (kfT (bM tb L) L (ntT (bM tb L) L + 1) kf) (zeT (ntT (bM tb L) L + 1) ro) (zeT (ntT (bM tb L) L + 1) me)).1))) (mdW (rsS τ c (kfT (bM tb L) L (ntT (bM tb L) L + 1) kf) (saT (bM tb L) L (ntT (bM tb L) L + 1) ff) (nfT (bM tb L) L (ntT (bM tb L) L + 1) nf) (zeT (ntT (bM tb L) L + 1) ro) (zeT (ntT (bM tb L) L + 1) me)) m0 (.ref tp) (.int (nI L)) (.int ((saT (bM tb L) L (ntT (bM tb L) L + 1) ff) (rTk (P2B tb (bM tb L) L (kfT (bM tb L) L (ntT (bM tb L) L + 1) kf) (zeT (ntT (bM tb L) L + 1) ro) (zeT (ntT (bM tb L) L + 1) me)).2))) m11 m13 m14 m15 M c (c + 1) (c + 2) (c + 3) (c + 4) (1000 + τ.2.1) (P2B tb (bM tb L) L (kfT (bM tb L) L (ntT (bM tb L) L + 1) kf) (zeT (ntT (bM tb L) L + 1) ro) (zeT (ntT (bM tb L) L + 1) me)).2) := j_yes H hd hok (fun h => absurd h hb) (fun _ => rfl)
/-- the error of the second pass is one to five, or none -/
theorem eO_p {tb : Nat → Int32} {fi li : Nat → Nat} {kf : Nat → Int32} {z i : Nat} {R : MR} (h : ¬ (eO tb fi li kf z i R).1 = nI 0) : ¬ (eO tb fi li kf z i R).1 ≤ 0 := by
  have p2 : ¬ nI 2 ≤ 0 := by decide
  have p3 : ¬ nI 3 ≤ 0 := by decide
  have p4 : ¬ nI 4 ≤ 0 := by decide
  have p5 : ¬ nI 5 ≤ 0 := by decide
  have lk : ∀ x, ¬ lkE x = nI 0 → ¬ lkE x ≤ 0 := by
    intro x hx
    unfold lkE at hx ⊢
    split at hx
    · rename_i q
      rw [if_pos q]
      exact p3
    · exact absurd rfl hx
  have inn : ∀ x lo hi, ¬ inO x lo hi = nI 0 → ¬ inO x lo hi ≤ 0 := by
    intro x lo hi hx
    unfold inO at hx ⊢
    by_cases q : x < lo
    · rw [if_pos q]
      exact p5
    · rw [if_neg q] at hx ⊢
      by_cases q2 : hi < x
      · rw [if_pos q2]
        exact p5
      · rw [if_neg q2] at hx
        exact absurd rfl hx
  unfold eO at h ⊢
  split at h
  · exact absurd rfl h
  · rename_i h0
    rw [if_neg h0]
    split at h
    · rename_i h1
      rw [if_pos h1]
      split at h
      · rename_i h2
        rw [if_pos h2]
        split at h
        · rename_i h3
          rw [if_pos h3]
          exact p4
        · exact absurd rfl h
      · rename_i h2
        rw [if_neg h2]
        exact p2
    · rename_i h1
      rw [if_neg h1]
      split at h
      · rename_i h2
        rw [if_pos h2]
        split at h
        · rename_i h3
          rw [if_pos h3]
          exact p4
        · exact absurd rfl h
      · rename_i h2
        rw [if_neg h2]
        split at h
        · rename_i h3
          rw [if_pos h3]
          exact lk _ h
        · rename_i h3
          rw [if_neg h3]
          split at h
          · rename_i h4
            rw [if_pos h4]
            exact lk _ h
          · rename_i h4
            rw [if_neg h4]
            split at h
            · rename_i h5
              rw [if_pos h5]
              split at h
              · rename_i h6
                rw [if_pos h6]
                exact p4
              · rename_i h6
                rw [if_neg h6]
                exact inn _ _ _ h
            · rename_i h5
              rw [if_neg h5]
              split at h
              · rename_i h6
                rw [if_pos h6]
                exact inn _ _ _ h
              · rename_i h6
                rw [if_neg h6]
                exact inn _ _ _ h
theorem erL_p {tb : Nat → Int32} {fi li : Nat → Nat} {kf : Nat → Int32} {zf : Nat → Nat} : ∀ (m : Nat) (R : MR), ¬ (erL tb fi li kf zf m R).1 = nI 0 → ¬ (erL tb fi li kf zf m R).1 ≤ 0
  | 0, R, h => absurd rfl h
  | m + 1, R, h => by
    rw [erL] at h ⊢
    split at h
    · rename_i q
      rw [if_pos q]
      exact erL_p m _ h
    · rename_i q
      rw [if_neg q]
      exact eO_p h

