/-! ===== the roles of a book ===== -/
def EvP (q b : Nat) (r : PR) (K : Nat → Nat → Prop) : Prop := r.1 = true → ∃ q' b', evC q b r.2 q' b' ∧ K q' b'
theorem Ev_seq {q b i : Nat} {a : PR} {f : Nat → PR} {K1 K : Nat → Nat → Prop} (ha : EvP q b a K1) (hf : ∀ q' b' i', K1 q' b' → EvP q' b' (f i') K) : EvP q b (pSeq i a f) K := by
  unfold pSeq
  by_cases h : a.1 = true
  · rw [if_pos h]
    intro h2
    obtain ⟨q1, b1, e1, k1⟩ := ha h
    obtain ⟨q2, b2, e2, k2⟩ := hf q1 b1 _ k1 h2
    exact ⟨q2, b2, evC_app _ _ _ _ _ _ _ _ e1 e2, k2⟩
  · rw [if_neg h]
    exact fun z => absurd z h
def B0 : Nat → Nat → Prop := fun _ b => b = 0
def EvG (p : Nat → PR) : Prop := ∀ i q, EvP q 0 (p i) B0
theorem Ev_no {q b : Nat} {t : List PA} {K : Nat → Nat → Prop} : EvP q b (pNo t) K := fun h => absurd h Bool.false_ne_true
/-- a trace without roles -/
def nr : List PA → Bool
  | [] => true
  | a :: t => (a.1 != 1) && nr t
theorem nr_ev : ∀ (t : List PA), nr t = true → ∀ q, ∃ q', evC q 0 t q' 0
  | [], _, q => ⟨q, rfl, rfl⟩
  | a :: t, h, q => by
    have h' : (a.1 != 1) = true ∧ nr t = true := by
      have := h
      simp only [nr, Bool.and_eq_true] at this
      exact this
    have h1 : ¬ a.1 = 1 := by simpa using h'.1
    by_cases p0 : a.1 = 0
    · obtain ⟨q', e⟩ := nr_ev t h'.2 0
      exact ⟨q', by rw [evC, if_neg h1, if_pos p0]; exact e⟩
    · obtain ⟨q', e⟩ := nr_ev t h'.2 q
      exact ⟨q', by rw [evC, if_neg h1, if_neg p0]; exact e⟩
theorem Ev_nr {q : Nat} {t : List PA} (h : nr t = true) : EvP q 0 (pOk t) B0 := fun _ => by
  obtain ⟨q', e⟩ := nr_ev t h q
  exact ⟨q', 0, e, rfl⟩
theorem E_take {kd : Nat → Nat} {k : Nat} : EvG (pTake kd k) := by
  intro i q
  unfold pTake
  split
  · exact Ev_nr rfl
  · exact Ev_no
theorem E_name {kd : Nat → Nat} : EvG (pName kd) := by
  intro i q
  unfold pName
  split
  · exact fun _ => ⟨4, 0, by simp [pOk, evC, aNam, aRole, aLook, aSk], rfl⟩
  · exact Ev_no
def EvO (dp : Option (Nat → PR)) : Prop := ∀ f, dp = some f → EvG f
theorem E_into {dp : Option (Nat → PR)} {rest : Nat → PR} {i q : Nat} (hd : EvO dp) (hr : EvG rest) : EvP q 0 (pInto dp i rest) B0 := by
  unfold pInto
  cases dp with
  | none => exact Ev_no
  | some f => exact Ev_seq (Ev_nr rfl) (fun q' b' i' h => by cases h; exact Ev_seq (hd f rfl _ _) (fun q' b' i' h => by cases h; exact hr _ _))
theorem E_seq {q i : Nat} {a : PR} {f : Nat → PR} (ha : EvP q 0 a B0) (hf : EvG f) : EvP q 0 (pSeq i a f) B0 := Ev_seq ha (fun q' b' i' h => by cases h; exact hf _ _)
theorem E_loop {kd : Nat → Nat} {k1 k2 : Nat} {part : Nat → PR} (hp : EvG part) : ∀ m, EvG (pLoop kd k1 k2 part m)
  | 0 => fun i q => Ev_nr rfl
  | m + 1 => fun i q => by
    rw [pLoop]
    split
    · exact E_seq (E_seq (Ev_nr rfl) (fun i q => E_seq (hp _ _) (fun i q => Ev_nr rfl))) (E_loop hp m)
    · exact Ev_nr rfl
theorem E_many {kd : Nat → Nat} {k1 k2 : Nat} {part : Nat → PR} (hp : EvG part) : EvG (pMany kd k1 k2 part) := fun i q => E_seq (hp _ _) (fun i q => E_loop hp _ _ _)
theorem E_fun1 {kd : Nat → Nat} {sd : Option (Nat → PR)} (hs : EvO sd) : EvG (pFun1 kd sd) := by
  intro i q
  refine E_seq (Ev_nr rfl) (fun i q => ?_)
  split
  · exact E_into hs (fun i q => E_seq (Ev_nr rfl) (fun i q => E_seq (E_take _ _) (fun i q => Ev_nr rfl)))
  · exact Ev_no
theorem E_fun2 {kd : Nat → Nat} {sd : Option (Nat → PR)} (hs : EvO sd) : EvG (pFun2 kd sd) := by
  intro i q
  refine E_seq (Ev_nr rfl) (fun j q => ?_)
  split
  · have hg : EvG (sd.getD (fun _ => pNo [])) := by
      cases sd with
      | none => exact fun i q => Ev_no
      | some f => exact hs f rfl
    exact E_into hs (fun i q => E_seq (E_take _ _) (fun i q => E_seq (hg _ _) (fun i q => E_seq (Ev_nr rfl) E_take)))
  · exact Ev_no
theorem E_value {kd : Nat → Nat} {vd sd : Option (Nat → PR)} (hv : EvO vd) (hs : EvO sd) : EvG (pValue kd vd sd) := by
  intro i q
  unfold pValue
  split
  · exact Ev_nr rfl
  · split
    · exact Ev_nr rfl
    · split
      · exact E_seq (Ev_nr rfl) (fun i q => E_seq (E_take _ _) (fun i q => E_seq (E_name _ _) (fun i q => Ev_nr rfl)))
      · split
        · exact E_into hv (fun i q => Ev_nr rfl)
        · split
          · exact E_into hs (fun i q => E_seq (Ev_nr rfl) E_take)
          · split
            · exact E_fun1 hs _ _
            · split
              · exact E_fun2 hs _ _
              · exact Ev_no
theorem Eo0 : EvO none := fun _ h => nomatch h
theorem Eo1 {f : Nat → PR} (h : EvG f) : EvO (some f) := fun g hg => by cases hg; exact h
theorem E_lev (kd : Nat → Nat) : ∀ e, EvG (pLev kd e).1 ∧ EvG (pLev kd e).2
  | 0 => ⟨E_value Eo0 Eo0, E_many (E_many (E_value Eo0 Eo0))⟩
  | e + 1 => by
    obtain ⟨h1, h2⟩ := E_lev kd e
    exact ⟨E_value (Eo1 h1) (Eo1 h2), E_many (E_many (E_value (Eo1 h1) (Eo1 h2)))⟩
theorem E_cmp {kd : Nat → Nat} {sum : Nat → PR} (hs : EvG sum) : EvG (pCmp kd sum) := by
  intro i q
  refine E_seq (hs _ _) (fun j q => ?_)
  split
  · exact E_seq (Ev_nr rfl) (fun i q => E_seq (hs _ _) (fun i q => Ev_nr rfl))
  · exact Ev_no
theorem E_single {kd : Nat → Nat} {gd td : Option (Nat → PR)} {sum : Nat → PR} (hg : EvO gd) (ht : EvO td) (hs : EvG sum) : EvG (pSingle kd gd td sum) := by
  intro i q
  unfold pSingle
  split
  · exact E_into hg (fun i q => Ev_nr rfl)
  · split
    · exact E_into ht (fun i q => E_seq (Ev_nr rfl) E_take)
    · split
      · exact E_seq (Ev_nr rfl) (fun i q => E_seq (E_name _ _) (fun i q => E_seq (E_name _ _) (fun i q => Ev_nr rfl)))
      · split
        · exact E_seq (Ev_nr rfl) (fun i q => E_seq (hs _ _) (fun i q => Ev_nr rfl))
        · exact E_cmp hs _ _
theorem E_tev (kd : Nat → Nat) : ∀ e, EvG (pTev kd e).1 ∧ EvG (pTev kd e).2
  | 0 => ⟨E_single Eo0 Eo0 (E_lev kd 0).2, E_many (E_many (E_single Eo0 Eo0 (E_lev kd 0).2))⟩
  | e + 1 => by
    obtain ⟨h1, h2⟩ := E_tev kd e
    exact ⟨E_single (Eo1 h1) (Eo1 h2) (E_lev kd _).2, E_many (E_many (E_single (Eo1 h1) (Eo1 h2) (E_lev kd _).2))⟩
theorem E_pig {kd : Nat → Nat} : EvG (pPig kd) := by
  intro i q h
  unfold pPig pTake pAs at h ⊢
  by_cases h1 : kd i = 1
  · by_cases h2 : kd (i + 1) = 43
    · by_cases h3 : kd (i + 2) = 2
      · by_cases h4 : kd (i + 3) = 44
        · by_cases h5 : kd (i + 4) = 3
          · by_cases h6 : kd (i + 5) = 44
            · refine ⟨7, 0, ?_, rfl⟩
              simp [pSeq, pOk, pNo, h1, h2, h3, h4, h5, h6, skN, evC, aSk, aRole, aNew, aRng, aPig, Nat.add_assoc]
            · simp [pSeq, pOk, pNo, h1, h2, h3, h4, h5, h6, skN, aSk, aRole, aNew, aRng, aPig, Nat.add_assoc] at h
          · simp [pSeq, pOk, pNo, h1, h2, h3, h4, h5, skN, aSk, aRole, aNew, aRng, aPig, Nat.add_assoc] at h
        · simp [pSeq, pOk, pNo, h1, h2, h3, h4, skN, aSk, aRole, aNew, aRng, aPig, Nat.add_assoc] at h
      · simp [pSeq, pOk, pNo, h1, h2, h3, skN, aSk, aRole, aNew, aRng, aPig, Nat.add_assoc] at h
    · simp [pSeq, pOk, pNo, h1, h2, skN, aSk, aRole, aNew, aRng, aPig, Nat.add_assoc] at h
  · simp [pSeq, pOk, pNo, h1, skN, aSk, aRole, aNew, aRng, aPig, Nat.add_assoc] at h
theorem E_when {kd : Nat → Nat} : EvG (pWhen kd) := by
  intro i q
  unfold pWhen
  split
  · exact E_seq (Ev_nr rfl) (E_tev kd 8).2
  · exact Ev_nr rfl
theorem E_ord {kd : Nat → Nat} : EvG (pOrd kd) := by
  intro i q
  refine Ev_seq (K1 := fun q b => q = 2 ∧ b = 0) (fun _ => ⟨2, 0, by simp [pOk, evC, aFull, aRole, aSk, aOB, aM1], rfl, rfl⟩) (fun q' b' i' h => ?_)
  obtain ⟨rfl, rfl⟩ := h
  refine Ev_seq (K1 := B0) ?_ (fun q' b' i' h => ?_)
  · split
    · unfold pMove
      refine Ev_seq (K1 := B0) ?_ (fun q' b' i' h => ?_)
      · unfold pAs
        split
        · exact fun _ => ⟨3, 0, by simp [pOk, evC, aLook, aRole, aSk], rfl⟩
        · exact Ev_no
      · cases h
        refine E_seq (Ev_nr rfl) (fun i q => ?_)
        unfold pSide
        split
        · exact Ev_nr rfl
        · exact Ev_no
    · exact (E_lev kd 8).2 _ _
  · cases h
    exact E_seq (Ev_nr rfl) (fun i q => E_seq (E_when _ _) (fun i q => Ev_nr rfl))
theorem E_line {kd : Nat → Nat} : EvG (pLine kd) := by
  intro i q
  unfold pLine
  split
  · exact E_ord _ _
  · exact E_pig _ _
theorem E_lines {kd : Nat → Nat} : ∀ m, EvG (pLines kd m)
  | 0 => fun i q => Ev_nr rfl
  | m + 1 => fun i q => by
    rw [pLines]
    split
    · exact Ev_nr rfl
    · exact E_seq (E_seq (E_line _ _) E_take) (E_lines m)
theorem E_roofL {kd : Nat → Nat} : ∀ m, EvG (pRoofL kd m)
  | 0 => fun i q => Ev_nr rfl
  | m + 1 => fun i q => by
    rw [pRoofL]
    split
    · exact E_seq (fun _ => ⟨5, 0, by simp [pOk, evC, aRoof, aRole, aSk], rfl⟩) (E_roofL m)
    · exact Ev_nr rfl
theorem E_book {kd : Nat → Nat} (h : (pBook kd).1 = true) : ∃ q', evC 0 0 (pBook kd).2 q' 0 := by
  have : EvP 0 0 (pBook kd) B0 := by
    refine E_seq (E_seq (E_take _ _) (fun j q => ?_)) (fun i q => E_lines _ _ _)
    split
    · exact E_seq (E_roofL _ _ _) E_take
    · exact Ev_no
  obtain ⟨q', b', e, hb⟩ := this h
  have hb : b' = 0 := hb
  subst hb
  exact ⟨q', e⟩
