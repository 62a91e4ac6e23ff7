/-! ===== kinds: class and reference ===== -/
theorem spO_0 {tx b : Nat → Int32} {n f len : Nat} (h : 1 ≤ len) (hc : ¬ chR (tx 0) = b f) : spO tx b n f len = nI 0 := by
  unfold spO
  split
  · rename_i q
    obtain ⟨m, rfl⟩ : ∃ m, n = m + 1 := ⟨n - 1, by omega⟩
    rw [spN, Nat.add_zero, if_neg hc]
  · rfl
theorem tl1 : ∀ j, j < 27 → isLt (chR (mxrow (txt j) 0)) = nI 1 := by decide +kernel
theorem tl0 : ∀ j, j < 47 → 27 ≤ j → isLt (chR (mxrow (txt j) 0)) = nI 0 := by decide +kernel
theorem kd_let {b : Nat → Int32} {f len : Nat} (h : isLt (b f) = nI 1) (hl : 1 ≤ len) : ∀ m j, j + m = 27 → kdN b f len 43 (m + 20) j = wdN b f len m j := by
  intro m
  induction m with
  | zero =>
    intro j hj
    have hj : j = 27 := hj
    subst hj
    have : ∀ m j, 27 ≤ j → j + m = 47 → kdN b f len 43 m j = 43 := by
      intro m
      induction m with
      | zero => intro j _ _; rfl
      | succ m ih =>
        intro j h1 h2
        rw [kdN, spO_0 hl (fun z => by
          have := tl0 j (by omega) h1
          rw [z, h] at this
          exact absurd this n1z), if_pos rfl]
        exact ih (j + 1) (by omega) (by omega)
    exact this 20 27 (Nat.le_refl _) rfl
  | succ m ih =>
    intro j hj
    rw [show m + 1 + 20 = (m + 20) + 1 by omega, kdN, wdN]
    split
    · exact ih (j + 1) (by omega)
    · rfl
theorem kd_sig {b : Nat → Int32} {f len : Nat} (h : isLt (b f) = nI 0) (hl : 1 ≤ len) : ∀ m j, j + m = 27 → kdN b f len 46 (m + 20) j = kdN b f len 46 20 27 := by
  intro m
  induction m with
  | zero =>
    intro j hj
    have hj : j = 27 := hj
    subst hj
    rfl
  | succ m ih =>
    intro j hj
    rw [show m + 1 + 20 = (m + 20) + 1 by omega, kdN, spO_0 hl (fun z => by
      have := tl1 j (by omega)
      rw [z, h] at this
      exact absurd this.symm n1z), if_pos rfl]
    exact ih (j + 1) (by omega)
def sgN' (x : Int32) : Nat → Nat → Nat
  | 0, _ => 46
  | m + 1, j => if (txt j).length = 1 ∧ chR (mxrow (txt j) 0) = x then j else sgN' x m (j + 1)
theorem kd_1s {b : Nat → Int32} {f : Nat} : ∀ m j, kdN b f 1 46 m j = sgN' (b f) m j
  | 0, _ => rfl
  | m + 1, j => by
    rw [kdN, sgN', kd_1s m (j + 1)]
    unfold spO
    by_cases q : (txt j).length = 1
    · rw [if_pos q, q, spN, Nat.add_zero, spN]
      by_cases r : chR (mxrow (txt j) 0) = b f
      · rw [if_pos r, if_neg n1z, if_pos ⟨rfl, r⟩]
      · rw [if_neg r, if_pos rfl, if_neg (fun z => r z.2)]
    · rw [if_neg q, if_pos rfl, if_neg (fun z => q z.1)]
def dbN (x y : Int32) : Nat → Nat → Nat
  | 0, _ => 46
  | m + 1, j => if (txt j).length = 2 ∧ chR (mxrow (txt j) 0) = x ∧ chR (mxrow (txt j) 1) = y then j else dbN x y m (j + 1)
theorem kd_2s {b : Nat → Int32} {f : Nat} : ∀ m j, kdN b f 2 46 m j = dbN (b f) (b (f + 1)) m j
  | 0, _ => rfl
  | m + 1, j => by
    rw [kdN, dbN, kd_2s m (j + 1)]
    unfold spO
    by_cases q : (txt j).length = 2
    · rw [if_pos q, q, spN, Nat.add_zero, spN, spN]
      by_cases r : chR (mxrow (txt j) 0) = b f
      · rw [if_pos r]
        by_cases r2 : chR (mxrow (txt j) (0 + 1)) = b (f + (0 + 1))
        · rw [if_pos r2, if_neg n1z, if_pos ⟨rfl, r, r2⟩]
        · rw [if_neg r2, if_pos rfl, if_neg (fun z => r2 z.2.2)]
      · rw [if_neg r, if_pos rfl, if_neg (fun z => r z.2.1)]
    · rw [if_neg q, if_pos rfl, if_neg (fun z => q z.1)]
theorem db60 : dbN (nI 60) (nI 61) 20 27 = 40 := by decide +kernel
theorem db62 : dbN (nI 62) (nI 61) 20 27 = 41 := by decide +kernel
def sgR (x : Int32) : Int32 := if x ≤ 0 then nI 901 else if nI 128 ≤ x then nI 901 else if ixN (mxrow mxsigns) x 13 0 < 0 then nI 901 else nI 50 + x
theorem sg_ok : ∀ n, n < 256 → sgR (nI n) = nI (kR (sgN' (nI n) 20 27)) := by decide +kernel
theorem kW_R {k : Nat} (h : k < 27 ∨ k = 43) : kW k = kR k := by
  rcases h with h | h
  · unfold kW kR
    rw [if_neg (by omega), if_pos h]
  · subst h; rfl
theorem wdN_b (b : Nat → Int32) (f len : Nat) : ∀ m j, j + m = 27 → wdN b f len m j < 27 ∨ wdN b f len m j = 43
  | 0, _, _ => .inr rfl
  | m + 1, j, h => by
    rw [wdN]
    split
    · exact wdN_b b f len m (j + 1) (by omega)
    · exact .inl (by omega)
theorem lt_dg {x : Int32} (h : isLt x = nI 1) : isDg x = nI 0 := by
  unfold isLt at h
  unfold isDg
  by_cases h1 : x < nI 97
  · rw [if_pos h1] at h
    exact absurd h.symm n1z
  · split
    · rfl
    · rw [if_pos]
      have h3 : nI 97 ≤ x := Int32.not_lt.mp h1
      exact Int32.lt_of_lt_of_le (show nI 57 < nI 97 by decide) h3

