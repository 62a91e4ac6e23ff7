/-! ===== tokens: numbers and names ===== -/
theorem dg_n {x : Int32} (h : ¬ isDg x = nI 0) : ∃ g, g < 10 ∧ x - nI 48 = nI g ∧ x = nI (g + 48) := by
  unfold isDg at h
  by_cases q : x < nI 48
  · rw [if_pos q] at h
    exact absurd rfl h
  · rw [if_neg q] at h
    by_cases q2 : nI 57 < x
    · rw [if_pos q2] at h
      exact absurd rfl h
    · have h0 : ¬ x < 0 := fun z => q (Int32.lt_trans z (by decide))
      obtain ⟨j, hj, rfl⟩ := nI_of2 (M := nI 57) (n := 57) (by decide) h0 (Int32.not_lt.mp q2)
      have h48 : 48 ≤ j := Nat.le_of_not_lt (fun z => q (nI_lt z (by decide)))
      refine ⟨j - 48, by omega, nIs h48, ?_⟩
      rw [Nat.sub_add_cancel h48]
theorem lt_n {x : Int32} (h : ¬ isLt x = nI 0) : ∃ g, g < 26 ∧ x = nI (g + 97) := by
  unfold isLt at h
  by_cases q : x < nI 97
  · rw [if_pos q] at h
    exact absurd rfl h
  · rw [if_neg q] at h
    by_cases q2 : nI 122 < x
    · rw [if_pos q2] at h
      exact absurd rfl h
    · have h0 : ¬ x < 0 := fun z => q (Int32.lt_trans z (by decide))
      obtain ⟨j, hj, rfl⟩ := nI_of2 (M := nI 122) (n := 122) (by decide) h0 (Int32.not_lt.mp q2)
      have h97 : 97 ≤ j := Nat.le_of_not_lt (fun z => q (nI_lt z (by decide)))
      refine ⟨j - 97, by omega, ?_⟩
      rw [Nat.sub_add_cancel h97]
def dgB (x : Int32) : Prop := ¬ isDg x = nI 0
def sgB (x : Int32) : Prop := ¬ isDg x = nI 0 ∨ ¬ isLt x = nI 0
def sgV (b : Nat → Int32) (k : Nat) : Nat := (sgN b k).toNatClampNeg
def sgC (s : Nat) : Int32 := if s < 10 then nI (s + 48) else nI (s + 87)
theorem sg_n {b : Nat → Int32} {k : Nat} (h : sgB (b k)) : sgN b k = nI (sgV b k) ∧ sgV b k < 36 ∧ b k = sgC (sgV b k) := by
  have key : ∃ s, s < 36 ∧ sgN b k = nI s ∧ b k = sgC s := by
    unfold sgN
    by_cases q : isDg (b k) = nI 0
    · rw [if_pos q]
      obtain ⟨g, hg, e⟩ := lt_n (h.resolve_left (fun z => z q))
      refine ⟨g + 10, by omega, ?_, ?_⟩
      · rw [e, nIs (by omega), nI_add]
        rw [Nat.add_sub_cancel]
      · rw [e]
        unfold sgC
        rw [if_neg (by omega)]
    · rw [if_neg q]
      obtain ⟨g, hg, e1, e2⟩ := dg_n q
      refine ⟨g, by omega, e1, ?_⟩
      rw [e2]
      unfold sgC
      rw [if_pos hg]
  obtain ⟨s, hs, e1, e2⟩ := key
  have e : sgV b k = s := by
    unfold sgV
    rw [e1]
    exact nI_clamp (by omega)
  rw [e]
  exact ⟨e1, hs, e2⟩
/-! numbers -/
theorem nu_n {b : Nat → Int32} : ∀ m k j X, (∀ p, k ≤ p → p < k + m → dgB (b p)) → X < 10 ^ j → ∃ Y, Y < 10 ^ (j + m) ∧ nuN b m k (nI X) = nI Y
  | 0, _, j, X, _, hX => ⟨X, hX, rfl⟩
  | m + 1, k, j, X, h, hX => by
    obtain ⟨g, hg, e, _⟩ := dg_n (h k (Nat.le_refl _) (by omega))
    have h10 : 10 ^ (j + 1) = 10 ^ j * 10 := Nat.pow_succ ..
    obtain ⟨Y, hY, e2⟩ := nu_n (b := b) m (k + 1) (j + 1) (X * 10 + g) (fun p h1 h2 => h p (by omega) (by omega)) (by omega)
    refine ⟨Y, by rw [show j + (m + 1) = j + 1 + m by omega]; exact hY, ?_⟩
    rw [nuN, e, show nI X * nI 10 = nI (X * 10) from (Int32.ofNat_mul X 10).symm, nI_add]
    exact e2
theorem nu_cg {b c : Nat → Int32} : ∀ m k x, (∀ p, k ≤ p → p < k + m → b p = c p) → nuN b m k x = nuN c m k x
  | 0, _, _, _ => rfl
  | m + 1, k, x, h => by
    rw [nuN, nuN, h k (Nat.le_refl _) (by omega)]
    exact nu_cg m (k + 1) _ (fun p h1 h2 => h p (by omega) (by omega))
/-! names -/
def naV (b : Nat → Int32) (f : Nat) : Nat → Nat
  | 0 => 0
  | m + 1 => naV b f m * 37 + sgV b (f + m) + 1
theorem na_sn (b : Nat → Int32) : ∀ m k x, naN b (m + 1) k x = naN b m k x * 37 + (sgN b (k + m)).toInt64 + 1
  | 0, k, x => rfl
  | m + 1, k, x => by
    rw [naN, na_sn b m (k + 1)]
    rw [show k + 1 + m = k + (m + 1) by omega]
    rfl
theorem naV_b {b : Nat → Int32} {f : Nat} : ∀ m, (∀ p, f ≤ p → p < f + m → sgB (b p)) → naV b f m < 37 ^ m
  | 0, _ => Nat.one_pos
  | m + 1, h => by
    have h1 := naV_b (b := b) (f := f) m (fun p h1 h2 => h p h1 (by omega))
    have h2 := (sg_n (h (f + m) (by omega) (by omega))).2.1
    rw [naV, Nat.pow_succ]
    omega
theorem na_l {b : Nat → Int32} {f : Nat} : ∀ m, m ≤ 10 → (∀ p, f ≤ p → p < f + m → sgB (b p)) → naN b m f 0 = lN (naV b f m)
  | 0, _, _ => rfl
  | m + 1, hm, h => by
    have h1 := na_l (b := b) (f := f) m (by omega) (fun p h1 h2 => h p h1 (by omega))
    obtain ⟨e1, e2, _⟩ := sg_n (h (f + m) (by omega) (by omega))
    rw [na_sn, h1, e1, nI_l (by omega), naV]
    show lN _ * lN 37 + lN _ + lN 1 = _
    unfold lN
    rw [← Int64.ofNat_mul, ← Int64.ofNat_add, ← Int64.ofNat_add]
theorem naV_i {b : Nat → Int32} {f g : Nat} : ∀ m n, (∀ p, f ≤ p → p < f + m → sgB (b p)) → (∀ p, g ≤ p → p < g + n → sgB (b p)) → naV b f m = naV b g n → m = n ∧ ∀ j, j < m → b (f + j) = b (g + j)
  | 0, 0, _, _, _ => ⟨rfl, fun j hj => absurd hj (by omega)⟩
  | 0, n + 1, _, _, h => by
    rw [naV, naV] at h
    omega
  | m + 1, 0, _, _, h => by
    rw [naV, naV] at h
    omega
  | m + 1, n + 1, h1, h2, h => by
    obtain ⟨_, a2, a3⟩ := sg_n (h1 (f + m) (by omega) (by omega))
    obtain ⟨_, b2, b3⟩ := sg_n (h2 (g + n) (by omega) (by omega))
    rw [naV, naV] at h
    obtain ⟨e, he⟩ := naV_i (b := b) (f := f) (g := g) m n (fun p x y => h1 p x (by omega)) (fun p x y => h2 p x (by omega)) (by omega)
    subst e
    have hs : sgV b (f + m) = sgV b (g + m) := by omega
    refine ⟨rfl, fun j hj => ?_⟩
    by_cases q : j = m
    · subst q
      rw [a3, b3, hs]
    · exact he j (by omega)
theorem naV_c {b : Nat → Int32} {f g : Nat} : ∀ m, (∀ j, j < m → b (f + j) = b (g + j)) → naV b f m = naV b g m
  | 0, _ => rfl
  | m + 1, h => by
    rw [naV, naV, naV_c m (fun j hj => h j (by omega))]
    unfold sgV sgN
    rw [h m (by omega)]
theorem sm_iff (tb : Nat → Int32) (f g : Nat) : ∀ m k, smN tb f g m k = nI 0 ↔ ¬ ∀ j, k ≤ j → j < k + m → tb (f + j) = tb (g + j)
  | 0, k => ⟨fun h => absurd h n1z, fun h => absurd (fun j h1 h2 => absurd h2 (by omega)) h⟩
  | m + 1, k => by
    rw [smN]
    by_cases q : tb (f + k) = tb (g + k)
    · rw [if_pos q, sm_iff tb f g m (k + 1)]
      refine ⟨fun h z => h (fun j h1 h2 => z j (by omega) (by omega)), fun h z => h (fun j h1 h2 => ?_)⟩
      by_cases r : j = k
      · subst r
        exact q
      · exact z j (by omega) (by omega)
    · rw [if_neg q]
      exact ⟨fun _ z => q (z k (Nat.le_refl _) (by omega)), fun _ => rfl⟩
theorem lN_e63 {a b : Nat} (ha : a < 2 ^ 63) (hb : b < 2 ^ 63) (h : lN a = lN b) : a = b := by
  have := congrArg Int64.toInt h
  unfold lN at this
  rw [Int64.toInt_ofNat_of_lt ha, Int64.toInt_ofNat_of_lt hb] at this
  omega
theorem smO_iff {b tb : Nat → Int32} {f l g l' : Nat} (h1 : ∀ p, f ≤ p → p < f + l → sgB (b p) ∧ b p = tb p) (h2 : ∀ p, g ≤ p → p < g + l' → sgB (b p) ∧ b p = tb p) (hl : l ≤ 10) (hl' : l' ≤ 10) : smO tb f l g l' = nI 0 ↔ ¬ naN b l f 0 = naN b l' g 0 := by
  have s1 := fun p x y => (h1 p x y).1
  have s2 := fun p x y => (h2 p x y).1
  have b1 := naV_b l s1
  have b2 := naV_b l' s2
  have c1 : 37 ^ l ≤ 37 ^ 10 := Nat.pow_le_pow_right (by decide) hl
  have c2 : 37 ^ l' ≤ 37 ^ 10 := Nat.pow_le_pow_right (by decide) hl'
  have c3 : 37 ^ 10 < 2 ^ 63 := by decide
  rw [na_l l hl s1, na_l l' hl' s2]
  unfold smO
  by_cases q : l = l'
  · subst q
    rw [if_pos rfl, sm_iff]
    refine not_congr ⟨fun h => congrArg lN (naV_c l (fun j hj => ?_)), fun h j _ hj => ?_⟩
    · rw [(h1 (f + j) (by omega) (by omega)).2, (h2 (g + j) (by omega) (by omega)).2]
      exact h j (Nat.zero_le _) (by omega)
    · have e := (naV_i l l s1 s2 (lN_e63 (by omega) (by omega) h)).2 j (by omega)
      rw [← (h1 (f + j) (by omega) (by omega)).2, ← (h2 (g + j) (by omega) (by omega)).2]
      exact e
  · rw [if_neg q]
    exact ⟨fun _ h => q (naV_i l l' s1 s2 (lN_e63 (by omega) (by omega) h)).1, fun _ => rfl⟩
/-! the tokens -/
theorem eW_all (b : Nat → Int32) (w : Int32) : ∀ m k p, k ≤ p → p < eWN b w m k → ¬ isDg (b p) = nI 0 ∨ (¬ w = nI 0 ∧ ¬ isLt (b p) = nI 0)
  | 0, k, p, h1, h2 => absurd h2 (by rw [eWN]; omega)
  | m + 1, k, p, h1, h2 => by
    rw [eWN] at h2
    by_cases q : isDg (b k) = nI 0
    · rw [if_pos q] at h2
      by_cases r : w = nI 0
      · rw [if_pos r] at h2
        exact absurd h2 (by omega)
      · rw [if_neg r] at h2
        by_cases t : isLt (b k) = nI 0
        · rw [if_pos t] at h2
          exact absurd h2 (by omega)
        · rw [if_neg t] at h2
          by_cases e : p = k
          · subst e
            exact .inr ⟨r, t⟩
          · exact eW_all b w m (k + 1) p (by omega) h2
    · rw [if_neg q] at h2
      by_cases e : p = k
      · subst e
        exact .inl q
      · exact eW_all b w m (k + 1) p (by omega) h2
theorem dg_lt {x : Int32} (h : ¬ isLt x = nI 0) : isDg x = nI 0 := by
  obtain ⟨g, hg, rfl⟩ := lt_n h
  unfold isDg
  rw [if_neg (nI_nlt (by omega) (by omega)), if_pos (nI_lt (by omega) (by omega))]
theorem kN_4 {b : Nat → Int32} {f len : Nat} {k : Nat} (hl : 1 ≤ len) (hk : k = 43 ∨ k = 44) (h : kdN b f len (kFb b f) 47 0 = k) : k = 43 ∧ ¬ isLt (b f) = nI 0 := by
  rcases kdN_l b f len (kFb b f) 47 0 with r | r
  · rw [h] at r
    unfold kFb at r
    by_cases q : isLt (b f) = nI 0
    · rw [if_pos q] at r
      omega
    · rw [if_neg q] at r
      exact ⟨by omega, q⟩
  · rw [h] at r
    rcases hk with rfl | rfl
    · have : (txt 43).length = 0 := rfl
      omega
    · have : (txt 44).length = 0 := rfl
      omega
theorem kO_4 {b : Nat → Int32} {L f : Nat} {k : Nat} (hk : k = 43 ∨ k = 44) (h : kO b L f (eTk b L f) = k) : f < L ∧ (k = 44 → ¬ isDg (b f) = nI 0 ∧ eTk b L f - f ≤ 6) ∧ (k = 43 → ¬ isLt (b f) = nI 0 ∧ eTk b L f - f ≤ 10) := by
  unfold kO at h
  by_cases q : L ≤ f
  · rw [if_pos q] at h
    omega
  · rw [if_neg q] at h
    have hg := eTk_gt b (show f < L by omega)
    refine ⟨by omega, ?_⟩
    by_cases r : isDg (b f) = nI 0
    · rw [if_pos r] at h
      by_cases s : isLt (b f) = nI 0
      · rw [if_pos s] at h
        exact absurd s (kN_4 (by omega) hk h).2
      · rw [if_neg s] at h
        by_cases t : eTk b L f - f ≤ 10
        · rw [if_pos t] at h
          have := (kN_4 (by omega) hk h).1
          exact ⟨fun z => by omega, fun _ => ⟨s, t⟩⟩
        · rw [if_neg t] at h
          omega
    · rw [if_neg r] at h
      by_cases t : eTk b L f - f ≤ 6
      · rw [if_pos t] at h
        exact ⟨fun _ => ⟨r, t⟩, fun z => by omega⟩
      · rw [if_neg t] at h
        omega
theorem kT_4 {b : Nat → Int32} {L i k : Nat} (hk : k = 43 ∨ k = 44) (h : kdT b L i = k) : kO b L (frT b L i) (eTk b L (frT b L i)) = k := by
  rw [cuT_s]
  unfold kdT at h
  by_cases q : i = 400
  · rw [if_pos q] at h
    split at h <;> omega
  · rw [if_neg q] at h
    exact h
theorem tok_num {b : Nat → Int32} {L i : Nat} (h : kdT b L i = 44) : (∀ p, frT b L i ≤ p → p < cuT b L (i + 1) → dgB (b p)) ∧ cuT b L (i + 1) - frT b L i ≤ 6 := by
  obtain ⟨h1, h2, _⟩ := kO_4 (.inr rfl) (kT_4 (.inr rfl) h)
  obtain ⟨h3, h4⟩ := h2 rfl
  rw [cuT_s] at h4
  refine ⟨fun p x y => ?_, h4⟩
  have hl : isLt (b (frT b L i)) = nI 0 := Decidable.byContradiction (fun z => h3 (dg_lt z))
  rw [← cuT_s] at y
  unfold eTk at y
  rw [if_pos hl, if_neg h3] at y
  exact (eW_all b _ _ _ p x y).elim id (fun z => absurd rfl z.1)
theorem tok_nam {b : Nat → Int32} {L i : Nat} (h : kdT b L i = 43) : (∀ p, frT b L i ≤ p → p < cuT b L (i + 1) → sgB (b p)) ∧ cuT b L (i + 1) - frT b L i ≤ 10 := by
  obtain ⟨h1, _, h2⟩ := kO_4 (.inl rfl) (kT_4 (.inl rfl) h)
  obtain ⟨h3, h4⟩ := h2 rfl
  rw [cuT_s] at h4
  refine ⟨fun p x y => ?_, h4⟩
  rw [← cuT_s] at y
  unfold eTk at y
  rw [if_neg h3] at y
  exact (eW_all b _ _ _ p x y).imp id (fun z => z.2)
/-- the numbers of both -/
theorem num_v {tb : Nat → Int32} {L i : Nat} (h : kdT (bM tb L) L i = 44) : (vaT (bM tb L) L i).toInt32 = nmO tb (frT (bM tb L) L) (liT (bM tb L) L) i ∧ ∃ m, m < 1000000 ∧ nmO tb (frT (bM tb L) L) (liT (bM tb L) L) i = nI m := by
  obtain ⟨h1, h2⟩ := tok_num h
  have hc := cuT_b (bM tb L) L (i + 1)
  obtain ⟨_, hf⟩ := frT_b (bM tb L) L i
  have hb : ∀ p, p < L → bM tb L p = tb p := fun p hp => if_pos hp
  have e : nuN tb (cuT (bM tb L) L (i + 1) - frT (bM tb L) L i) (frT (bM tb L) L i) (nI 0) = nuN (bM tb L) (cuT (bM tb L) L (i + 1) - frT (bM tb L) L i) (frT (bM tb L) L i) (nI 0) := nu_cg _ _ _ (fun p x y => (hb p (by omega)).symm)
  constructor
  · unfold vaT vO nmO liT
    rw [h, if_pos rfl, Int32.toInt32_toInt64]
    exact e.symm
  · unfold nmO liT
    rw [e]
    obtain ⟨Y, hY, e2⟩ := nu_n (b := bM tb L) (cuT (bM tb L) L (i + 1) - frT (bM tb L) L i) (frT (bM tb L) L i) 0 0 (fun p x y => h1 p x (by omega)) (by decide)
    have : 10 ^ (0 + (cuT (bM tb L) L (i + 1) - frT (bM tb L) L i)) ≤ 10 ^ 6 := Nat.pow_le_pow_right (by decide) (by omega)
    exact ⟨Y, by omega, e2⟩
/-- the names of both -/
theorem nam_v {tb : Nat → Int32} {L i j : Nat} (h : kdT (bM tb L) L i = 43) (h' : kdT (bM tb L) L j = 43) : smO tb (frT (bM tb L) L i) (liT (bM tb L) L i) (frT (bM tb L) L j) (liT (bM tb L) L j) = nI 0 ↔ ¬ vaT (bM tb L) L i = vaT (bM tb L) L j := by
  obtain ⟨h1, h2⟩ := tok_nam h
  obtain ⟨h3, h4⟩ := tok_nam h'
  have hc := cuT_b (bM tb L) L (i + 1)
  have hc' := cuT_b (bM tb L) L (j + 1)
  obtain ⟨_, hf⟩ := frT_b (bM tb L) L i
  obtain ⟨_, hf'⟩ := frT_b (bM tb L) L j
  have hb : ∀ p, p < L → bM tb L p = tb p := fun p hp => if_pos hp
  have e : ∀ i, kdT (bM tb L) L i = 43 → vaT (bM tb L) L i = naN (bM tb L) (liT (bM tb L) L i) (frT (bM tb L) L i) 0 := fun i h => by
    unfold vaT vO
    rw [h, if_neg (by decide), if_pos rfl]
    rfl
  rw [e i h, e j h']
  exact smO_iff (b := bM tb L) (fun p x y => by unfold liT at y; exact ⟨h1 p x (by omega), hb p (by omega)⟩) (fun p x y => by unfold liT at y; exact ⟨h3 p x (by omega), hb p (by omega)⟩) h2 h4
