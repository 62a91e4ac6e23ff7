/-! ===== both readers along a trace: the second pass ===== -/
abbrev Cx : Type := ((Nat → Nat) × (Nat → Nat)) × (Nat → Int64) × (Nat → Int32) × ((Nat → Nat) × (Nat → Nat)) × (Nat → Int32) × Nat
def xkd (c : Cx) : Nat → Nat := c.1.1
def xzf (c : Cx) : Nat → Nat := c.1.2
def xv (c : Cx) : Nat → Int64 := c.2.1
def xtb (c : Cx) : Nat → Int32 := c.2.2.1
def xfi (c : Cx) : Nat → Nat := c.2.2.2.1.1
def xli (c : Cx) : Nat → Nat := c.2.2.2.1.2
def xkf (c : Cx) : Nat → Int32 := c.2.2.2.2.1
def xE (c : Cx) : Nat := c.2.2.2.2.2
def xnum (c : Cx) (i : Nat) : Int32 := nmO (xtb c) (xfi c) (xli c) i
def xeo (c : Cx) (z i : Nat) (R : MR) : Int32 × MR := eO (xtb c) (xfi c) (xli c) (xkf c) z i R
def xtd (c : Cx) (R : MR) (i : Nat) : Int32 := tdO (xtb c) (xfi c) (xli c) (rRo R) (nI 1) i
def xok (c : Cx) : Prop := (∀ i, i < xE c → xkd c i = 44 → (xv c i).toInt32 = xnum c i ∧ ∃ m, m < 1000000 ∧ xnum c i = nI m) ∧ (∀ i j, i < xE c → j < xE c → xkd c i = 43 → xkd c j = 43 → (smO (xtb c) (xfi c i) (xli c i) (xfi c j) (xli c j) = nI 0 ↔ ¬ xv c i = xv c j)) ∧ (∀ i, i < xE c → (xkd c i = 4 ∨ xkd c i = 5 ∨ xkd c i = 6 ∨ xkd c i = 7) → xkf c i = nI (xkd c i))
abbrev XS : Type := Int32 × Nat × MR
def eoX (c : Cx) (X : XS) : XS := if X.1 = nI 0 then (if (xeo c X.2.1 (rTk X.2.2) X.2.2).1 = nI 0 then (nI 0, 0, uSk (xeo c X.2.1 (rTk X.2.2) X.2.2).2) else ((xeo c X.2.1 (rTk X.2.2) X.2.2).1, 0, (xeo c X.2.1 (rTk X.2.2) X.2.2).2)) else (X.1, 0, X.2.2)
def stepX (c : Cx) (X : XS) (a : PA) : XS := if a.1 = 1 then (X.1, a.2.1, X.2.2) else if a.1 = 0 then eoX c X else X
def runX (c : Cx) (X : XS) (t : List PA) : XS := t.foldl (stepX c) X
theorem runX_app (c : Cx) (X : XS) (s t : List PA) : runX c X (s ++ t) = runX c (runX c X s) t := List.foldl_append
/-- the steps of a trace; the role at its end; that roles and steps are as they are -/
def stT : List PA → List (Nat × Nat × Nat)
  | [] => []
  | a :: t => if a.1 = 5 then a.2 :: stT t else stT t
theorem stT_app : ∀ s t, stT (s ++ t) = stT s ++ stT t
  | [], t => rfl
  | a :: s, t => by
    rw [List.cons_append, stT, stT, stT_app s t]
    split <;> rfl
def bE : Nat → List PA → Nat
  | b, [] => b
  | b, a :: t => if a.1 = 1 then bE a.2.1 t else if a.1 = 0 then bE 0 t else bE b t
def ag (zf : Nat → Nat) : Nat → Nat → Nat → List PA → Prop
  | _, _, _, [] => True
  | i, b, s, a :: t => if a.1 = 1 then ag zf i a.2.1 s t else if a.1 = 0 then zf i = b ∧ ag zf (i + 1) 0 s t else if a.1 = 5 then s < 400 ∧ ag zf i b (s + 1) t else ag zf i b s t
theorem ag_app (zf : Nat → Nat) : ∀ (t u : List PA) (i b s : Nat), ag zf i b s (t ++ u) ↔ ag zf i b s t ∧ ag zf (i + skN t) (bE b t) (s + (stT t).length) u
  | [], u, i, b, s => ⟨fun h => ⟨trivial, h⟩, fun h => h.2⟩
  | a :: t, u, i, b, s => by
    rw [List.cons_append, ag, ag, skN, bE, stT]
    by_cases p1 : a.1 = 1
    · rw [if_pos p1, if_pos p1, if_pos p1, if_neg (show ¬ a.1 = 0 by omega), if_neg (show ¬ a.1 = 5 by omega), ag_app zf t u, Nat.zero_add]
    · rw [if_neg p1, if_neg p1, if_neg p1]
      by_cases p0 : a.1 = 0
      · rw [if_pos p0, if_pos p0, if_pos p0, if_pos p0, if_neg (show ¬ a.1 = 5 by omega), ag_app zf t u, and_assoc, Nat.add_assoc]
      · rw [if_neg p0, if_neg p0, if_neg p0, if_neg p0, Nat.zero_add]
        by_cases p5 : a.1 = 5
        · rw [if_pos p5, if_pos p5, if_pos p5, ag_app zf t u, and_assoc, List.length_cons, Nat.add_assoc, Nat.add_comm 1]
        · rw [if_neg p5, if_neg p5, if_neg p5, ag_app zf t u]
theorem eO_T {tb : Nat → Int32} {fi li : Nat → Nat} {kf : Nat → Int32} {z i : Nat} {R : MR} : rTk (eO tb fi li kf z i R).2 = rTk R ∧ rRo (eO tb fi li kf z i R).2 = rRo R := by
  unfold eO
  split
  · exact ⟨rfl, rfl⟩
  · split
    · split
      · split <;> exact ⟨rfl, rfl⟩
      · exact ⟨rfl, rfl⟩
    · split
      · split <;> exact ⟨rfl, rfl⟩
      · split
        · exact ⟨rfl, rfl⟩
        · split
          · exact ⟨rfl, rfl⟩
          · split
            · split <;> exact ⟨rfl, rfl⟩
            · split <;> exact ⟨rfl, rfl⟩
theorem runX_z (c : Cx) : ∀ (t : List PA) (X : XS), ¬ X.1 = nI 0 → (runX c X t).1 = X.1 ∧ (runX c X t).2.2 = X.2.2
  | [], X, _ => ⟨rfl, rfl⟩
  | a :: t, X, h => by
    have e : (stepX c X a).1 = X.1 ∧ (stepX c X a).2.2 = X.2.2 := by
      unfold stepX eoX
      rw [if_neg h]
      split
      · exact ⟨rfl, rfl⟩
      · split <;> exact ⟨rfl, rfl⟩
    have := runX_z c t (stepX c X a) (by rw [e.1]; exact h)
    exact ⟨this.1.trans e.1, this.2.trans e.2⟩
theorem erX (c : Cx) : ∀ (t : List PA) (i b s : Nat) (R : MR), rTk R = i → ag (xzf c) i b s t → erL (xtb c) (xfi c) (xli c) (xkf c) (xzf c) (skN t) R = ((runX c (nI 0, b, R) t).1, (runX c (nI 0, b, R) t).2.2)
  | [], _, _, _, _, _, _ => rfl
  | a :: t, i, b, s, R, hi, h => by
    have er : runX c (nI 0, b, R) (a :: t) = runX c (stepX c (nI 0, b, R) a) t := rfl
    rw [ag] at h
    rw [er, skN]
    by_cases p1 : a.1 = 1
    · rw [if_pos p1] at h
      rw [if_neg (show ¬ a.1 = 0 by omega), Nat.zero_add]
      have e : stepX c (nI 0, b, R) a = (nI 0, a.2.1, R) := if_pos p1
      rw [e]
      exact erX c t i a.2.1 s R hi h
    · rw [if_neg p1] at h
      by_cases p0 : a.1 = 0
      · rw [if_pos p0] at h
        rw [if_pos p0, Nat.add_comm, erL, hi, h.1]
        have e : stepX c (nI 0, b, R) a = (if (xeo c b i R).1 = nI 0 then (nI 0, 0, uSk (xeo c b i R).2) else ((xeo c b i R).1, 0, (xeo c b i R).2)) := by
          unfold stepX eoX
          rw [if_neg p1, if_pos p0, if_pos rfl, ← hi]
        rw [e]
        show (if (xeo c b i R).1 = nI 0 then _ else xeo c b i R) = _
        by_cases q : (xeo c b i R).1 = nI 0
        · rw [if_pos q, if_pos q]
          exact erX c t (i + 1) 0 s _ (by show rTk (eO _ _ _ _ b i R).2 + 1 = i + 1; rw [eO_T.1, hi]) h.2
        · rw [if_neg q, if_neg q]
          obtain ⟨y1, y2⟩ := runX_z c t ((xeo c b i R).1, 0, (xeo c b i R).2) q
          rw [y1, y2]
      · rw [if_neg p0] at h
        rw [if_neg p0, Nat.zero_add]
        have e : stepX c (nI 0, b, R) a = (nI 0, b, R) := by
          unfold stepX
          rw [if_neg p1, if_neg p0]
        rw [e]
        by_cases p5 : a.1 = 5
        · rw [if_pos p5] at h
          exact erX c t i b (s + 1) R hi h.2
        · rw [if_neg p5] at h
          exact erX c t i b s R hi h
theorem bE_X (c : Cx) : ∀ (t : List PA) (X : XS), (runX c X t).2.1 = bE X.2.1 t
  | [], X => rfl
  | a :: t, X => by
    have e : (stepX c X a).2.1 = if a.1 = 1 then a.2.1 else if a.1 = 0 then 0 else X.2.1 := by
      unfold stepX eoX
      split
      · rfl
      · split
        · split
          · split <;> rfl
          · rfl
        · rfl
    have := bE_X c t (stepX c X a)
    rw [e] at this
    show (runX c (stepX c X a) t).2.1 = _
    rw [this, bE]
    split
    · rfl
    · split <;> rfl
/-! the class, once it has an error -/
theorem nt_k {e : Nat} {R : RS} (h : ¬ cEr R = 0) : cNote e R = R := if_neg h
theorem dup_k {v : Nat → Int64} {x : Int64} {R : RS} (h : ¬ cEr R = 0) : ∀ k, cDup v x k R = R
  | 0 => rfl
  | k + 1 => by
    rw [cDup, dup_k h k, nt_k h]
    split <;> rfl
theorem er_st {v : Nat → Int64} {R : RS} (h : ¬ cEr R = 0) (a : PA) : cEr (stepC v R a) = cEr R ∧ cEt (stepC v R a) = cEt R := by
  obtain ⟨k, x, y, z⟩ := a
  unfold stepC
  dsimp only
  split
  · exact ⟨rfl, rfl⟩
  · unfold cStep cAddS
    split <;> exact ⟨rfl, rfl⟩
  · unfold cLook
    rw [nt_k h]
    split <;> exact ⟨rfl, rfl⟩
  · unfold cRoof
    rw [nt_k h, nt_k h]
    rw [ite_self, ite_self]
    unfold cAddT
    split <;> exact ⟨rfl, rfl⟩
  · unfold cNew
    rw [dup_k h, nt_k h]
    split <;> exact ⟨rfl, rfl⟩
  · unfold cRng cRng1
    rw [nt_k h]
    split <;> split <;> (try split) <;> exact ⟨rfl, rfl⟩
  · unfold cPig cAddP
    split <;> exact ⟨rfl, rfl⟩
  · unfold cFull
    rw [nt_k h]
    split <;> exact ⟨rfl, rfl⟩
  · unfold cOrd cAddO
    split <;> exact ⟨rfl, rfl⟩
  · exact ⟨rfl, rfl⟩
  · exact ⟨rfl, rfl⟩
  · exact ⟨rfl, rfl⟩
theorem er_run {v : Nat → Int64} : ∀ (t : List PA) (R : RS), ¬ cEr R = 0 → cEr (runC v R t) = cEr R ∧ cEt (runC v R t) = cEt R
  | [], R, _ => ⟨rfl, rfl⟩
  | a :: t, R, h => by
    obtain ⟨h1, h2⟩ := er_st (v := v) h a
    obtain ⟨h3, h4⟩ := er_run (v := v) t (stepC v R a) (by rw [h1]; exact h)
    exact ⟨h3.trans h1, h4.trans h2⟩
/-! where a name is -/
theorem td_l {ro : Nat → Int32} {as : Int32} {sm : Nat → Int32} : ∀ (m k n : Nat) (ps : List Nat), (∀ j, j ∈ ps ↔ k ≤ j ∧ j < k + m ∧ ro j = as) → ps.Pairwise (· < ·) → (∃ r, ∃ h : r < ps.length, ¬ sm ps[r] = nI 0 ∧ tdN ro as sm m k n = nI (n + r)) ∨ ((∀ j, j ∈ ps → sm j = nI 0) ∧ tdN ro as sm m k n = -1)
  | 0, k, n, ps, h, _ => .inr ⟨fun j hj => absurd ((h j).mp hj) (by omega), rfl⟩
  | m + 1, k, n, ps, h, hp => by
    rw [tdN]
    by_cases q : ro k = as
    · rw [if_pos q]
      cases ps with
      | nil => exact absurd ((h k).mpr ⟨Nat.le_refl _, by omega, q⟩) (List.not_mem_nil)
      | cons x l =>
        obtain ⟨hx, hl⟩ := List.pairwise_cons.mp hp
        obtain ⟨x1, x2, x3⟩ := (h x).mp (List.mem_cons_self ..)
        have e : x = k := by
          rcases List.mem_cons.mp ((h k).mpr ⟨Nat.le_refl _, by omega, q⟩) with r | r
          · exact r.symm
          · have := hx k r
            omega
        subst e
        by_cases s : sm x = nI 0
        · rw [if_pos s]
          have ih := td_l (ro := ro) (as := as) (sm := sm) m (x + 1) (n + 1) l (fun j => ⟨fun hj => by
            obtain ⟨y1, y2, y3⟩ := (h j).mp (List.mem_cons_of_mem _ hj)
            have := hx j hj
            exact ⟨by omega, by omega, y3⟩, fun ⟨y1, y2, y3⟩ => by
            rcases List.mem_cons.mp ((h j).mpr ⟨by omega, by omega, y3⟩) with r | r
            · omega
            · exact r⟩) hl
          rcases ih with ⟨r, hr, e1, e2⟩ | ⟨e1, e2⟩
          · refine .inl ⟨r + 1, by rw [List.length_cons]; omega, e1, ?_⟩
            rw [e2, show n + 1 + r = n + (r + 1) by omega]
          · refine .inr ⟨fun j hj => ?_, e2⟩
            rcases List.mem_cons.mp hj with r | r
            · rw [r]
              exact s
            · exact e1 j r
        · rw [if_neg s]
          exact .inl ⟨0, Nat.succ_pos _, s, rfl⟩
    · rw [if_neg q]
      exact td_l (ro := ro) (as := as) (sm := sm) m (k + 1) n ps (fun j => ⟨fun hj => by
        obtain ⟨y1, y2, y3⟩ := (h j).mp hj
        have : ¬ j = k := fun z => q (z ▸ y3)
        exact ⟨by omega, by omega, y3⟩, fun ⟨y1, y2, y3⟩ => (h j).mpr ⟨by omega, by omega, y3⟩⟩) hp
theorem lk_e (ns : Nat → Int64) (x : Int64) : ∀ n, (∃ k, k < n ∧ lkS ns x n = some k ∧ ns k = x) ∨ (lkS ns x n = none ∧ ∀ k, k < n → ¬ ns k = x)
  | 0 => .inr ⟨rfl, fun k hk => absurd hk (by omega)⟩
  | n + 1 => by
    rw [lkS]
    by_cases q : ns n = x
    · rw [if_pos q]
      exact .inl ⟨n, by omega, rfl, q⟩
    · rw [if_neg q]
      rcases lk_e ns x n with ⟨k, h1, h2, h3⟩ | ⟨h1, h2⟩
      · exact .inl ⟨k, by omega, h2, h3⟩
      · refine .inr ⟨h1, fun k hk => ?_⟩
        by_cases r : k = n
        · rw [r]
          exact q
        · exact h2 k (by omega)
