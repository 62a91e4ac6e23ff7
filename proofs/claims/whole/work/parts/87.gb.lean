/-! ===== the words, names and steps of a book are few: the book ===== -/
theorem G_as {kd : Nat → Nat} {k r i w o s : Nat} {t : List PA} (ht : ∀ a b c e : Nat, chk kd a b c e (t ++ [aSk]) ∧ cnt bSk (t ++ [aSk]) = 1 ∧ cnt bWd (t ++ [aSk]) = 0 ∧ cnt bNm (t ++ [aSk]) = 0 ∧ cnt bSt (t ++ [aSk]) = 0) : Tr kd i w o s (pAs kd k r t i) (KE (i + 1) w o s) := by
  unfold pAs
  split
  · obtain ⟨h1, h2, h3, h4, h5⟩ := ht i w o s
    refine ⟨⟨by simp [ckA, bWd, bNm, bSt, aRole], ?_⟩, fun _ => ?_⟩
    · have e : chk kd (i + bSk (aRole r)) (w + bWd (aRole r)) (o + bNm (aRole r)) (s + bSt (aRole r)) (t ++ [aSk]) := (ht _ _ _ _).1
      exact e
    · show KE (i + 1) w o s (i + (0 + cnt bSk (t ++ [aSk]))) (w + (0 + cnt bWd (t ++ [aSk]))) (o + (0 + cnt bNm (t ++ [aSk]))) (s + (0 + cnt bSt (t ++ [aSk])))
      rw [h2, h3, h4, h5]
      exact ⟨rfl, rfl, rfl, rfl⟩
  · (simp only [pOk, pNo, Tr, chk, ckA, cnt, bWd, bNm, bSt, bSk, live, aSk, aRole, aPut, aNum, aNam, aStep, aLook, aRoof, aNew, aRng, aPig, aFull, aOrd, aM1, aM2, aOB, aOR, aOT, aOE, aDeep, aUp, rel, rel1, Nat.reduceEqDiff, or_false, false_or, or_true, true_or, or_self, ↓reduceIte, Nat.reduceAdd, Nat.add_zero, Nat.zero_add, and_true, true_and, ne_eq, reduceCtorEq, false_implies, implies_true, forall_const, Bool.false_eq_true])
theorem as_new {kd : Nat → Nat} : ∀ a b c e : Nat, chk kd a b c e ([aNew] ++ [aSk]) ∧ cnt bSk ([aNew] ++ [aSk]) = 1 ∧ cnt bWd ([aNew] ++ [aSk]) = 0 ∧ cnt bNm ([aNew] ++ [aSk]) = 0 ∧ cnt bSt ([aNew] ++ [aSk]) = 0 := fun a b c e => ⟨by simp [chk, ckA, bWd, bNm, bSt, bSk, aNew, aSk], rfl, rfl, rfl, rfl⟩
theorem as_look {kd : Nat → Nat} : ∀ a b c e : Nat, chk kd a b c e ([aLook] ++ [aSk]) ∧ cnt bSk ([aLook] ++ [aSk]) = 1 ∧ cnt bWd ([aLook] ++ [aSk]) = 0 ∧ cnt bNm ([aLook] ++ [aSk]) = 0 ∧ cnt bSt ([aLook] ++ [aSk]) = 0 := fun a b c e => ⟨by simp [chk, ckA, bWd, bNm, bSt, bSk, aLook, aSk], rfl, rfl, rfl, rfl⟩
theorem as_rng {kd : Nat → Nat} {z : Nat} : ∀ a b c e : Nat, chk kd a b c e ([aRng z] ++ [aSk]) ∧ cnt bSk ([aRng z] ++ [aSk]) = 1 ∧ cnt bWd ([aRng z] ++ [aSk]) = 0 ∧ cnt bNm ([aRng z] ++ [aSk]) = 0 ∧ cnt bSt ([aRng z] ++ [aSk]) = 0 := fun a b c e => ⟨by simp [chk, ckA, bWd, bNm, bSt, bSk, aRng, aSk], rfl, rfl, rfl, rfl⟩
theorem G_pig {kd : Nat → Nat} : Gd kd (pPig kd) := by
  intro i w o s h
  refine Tr_seq G_take (fun a b c e h1 => ?_)
  obtain ⟨rfl, rfl, rfl, rfl⟩ := h1
  refine Tr_seq (G_as as_new) (fun a b c e h1 => ?_)
  obtain ⟨rfl, rfl, rfl, rfl⟩ := h1
  refine Tr_seq G_take (fun a b c e h1 => ?_)
  obtain ⟨rfl, rfl, rfl, rfl⟩ := h1
  refine Tr_seq (G_as as_rng) (fun a b c e h1 => ?_)
  obtain ⟨rfl, rfl, rfl, rfl⟩ := h1
  refine Tr_seq G_take (fun a b c e h1 => ?_)
  obtain ⟨rfl, rfl, rfl, rfl⟩ := h1
  refine Tr_seq (G_as as_rng) (fun a b c e h1 => ?_)
  obtain ⟨rfl, rfl, rfl, rfl⟩ := h1
  (simp only [rel, rel1, pre, live] at * ; (simp only [pOk, pNo, Tr, chk, ckA, cnt, bWd, bNm, bSt, bSk, live, aSk, aRole, aPut, aNum, aNam, aStep, aLook, aRoof, aNew, aRng, aPig, aFull, aOrd, aM1, aM2, aOB, aOR, aOT, aOE, aDeep, aUp, rel, rel1, Nat.reduceEqDiff, or_false, false_or, or_true, true_or, or_self, ↓reduceIte, Nat.reduceAdd, Nat.add_zero, Nat.zero_add, and_true, true_and, ne_eq, reduceCtorEq, false_implies, implies_true, forall_const, Bool.false_eq_true]) ; try omega)
theorem G_move {kd : Nat → Nat} : Gd kd (pMove kd) := by
  intro i w o s h
  refine Tr_seq (G_as as_look) (fun a b c e h1 => ?_)
  obtain ⟨rfl, rfl, rfl, rfl⟩ := h1
  refine Tr_seq (K1 := KE (i + 1) b c e) (by unfold KE; (simp only [pOk, pNo, Tr, chk, ckA, cnt, bWd, bNm, bSt, bSk, live, aSk, aRole, aPut, aNum, aNam, aStep, aLook, aRoof, aNew, aRng, aPig, aFull, aOrd, aM1, aM2, aOB, aOR, aOT, aOE, aDeep, aUp, rel, rel1, Nat.reduceEqDiff, or_false, false_or, or_true, true_or, or_self, ↓reduceIte, Nat.reduceAdd, Nat.add_zero, Nat.zero_add, and_true, true_and, ne_eq, reduceCtorEq, false_implies, implies_true, forall_const, Bool.false_eq_true])) (fun a b' c' e' h1 => ?_)
  obtain ⟨rfl, rfl, rfl, rfl⟩ := h1
  unfold pSide
  split
  · (simp only [rel, rel1, pre, live] at * ; (simp only [pOk, pNo, Tr, chk, ckA, cnt, bWd, bNm, bSt, bSk, live, aSk, aRole, aPut, aNum, aNam, aStep, aLook, aRoof, aNew, aRng, aPig, aFull, aOrd, aM1, aM2, aOB, aOR, aOT, aOE, aDeep, aUp, rel, rel1, Nat.reduceEqDiff, or_false, false_or, or_true, true_or, or_self, ↓reduceIte, Nat.reduceAdd, Nat.add_zero, Nat.zero_add, and_true, true_and, ne_eq, reduceCtorEq, false_implies, implies_true, forall_const, Bool.false_eq_true]) ; try omega)
  · (simp only [rel, rel1, pre, live] at * ; (simp only [pOk, pNo, Tr, chk, ckA, cnt, bWd, bNm, bSt, bSk, live, aSk, aRole, aPut, aNum, aNam, aStep, aLook, aRoof, aNew, aRng, aPig, aFull, aOrd, aM1, aM2, aOB, aOR, aOT, aOE, aDeep, aUp, rel, rel1, Nat.reduceEqDiff, or_false, false_or, or_true, true_or, or_self, ↓reduceIte, Nat.reduceAdd, Nat.add_zero, Nat.zero_add, and_true, true_and, ne_eq, reduceCtorEq, false_implies, implies_true, forall_const, Bool.false_eq_true]) ; try omega)
theorem G_when {kd : Nat → Nat} : Gd kd (pWhen kd) := by
  intro i w o s h
  unfold pWhen
  split
  · refine Tr_seq (K1 := KE (i + 1) w o s) (by unfold KE; (simp only [pOk, pNo, Tr, chk, ckA, cnt, bWd, bNm, bSt, bSk, live, aSk, aRole, aPut, aNum, aNam, aStep, aLook, aRoof, aNew, aRng, aPig, aFull, aOrd, aM1, aM2, aOB, aOR, aOT, aOE, aDeep, aUp, rel, rel1, Nat.reduceEqDiff, or_false, false_or, or_true, true_or, or_self, ↓reduceIte, Nat.reduceAdd, Nat.add_zero, Nat.zero_add, and_true, true_and, ne_eq, reduceCtorEq, false_implies, implies_true, forall_const, Bool.false_eq_true])) (fun a b c e h1 => ?_)
    obtain ⟨rfl, rfl, rfl, rfl⟩ := h1
    exact Tr_w ((G_tev kd 8).2 _ _ _ _ (by unfold pre at *; omega)) (fun a b c e h2 => by unfold rel at *; omega)
  · (simp only [rel, rel1, pre, live] at * ; (simp only [pOk, pNo, Tr, chk, ckA, cnt, bWd, bNm, bSt, bSk, live, aSk, aRole, aPut, aNum, aNam, aStep, aLook, aRoof, aNew, aRng, aPig, aFull, aOrd, aM1, aM2, aOB, aOR, aOT, aOE, aDeep, aUp, rel, rel1, Nat.reduceEqDiff, or_false, false_or, or_true, true_or, or_self, ↓reduceIte, Nat.reduceAdd, Nat.add_zero, Nat.zero_add, and_true, true_and, ne_eq, reduceCtorEq, false_implies, implies_true, forall_const, Bool.false_eq_true]) ; try omega)
theorem G_ord {kd : Nat → Nat} : Gd kd (pOrd kd) := by
  intro i w o s h
  refine Tr_seq (K1 := KE (i + 1) w o s) (by unfold KE; (simp only [pOk, pNo, Tr, chk, ckA, cnt, bWd, bNm, bSt, bSk, live, aSk, aRole, aPut, aNum, aNam, aStep, aLook, aRoof, aNew, aRng, aPig, aFull, aOrd, aM1, aM2, aOB, aOR, aOT, aOE, aDeep, aUp, rel, rel1, Nat.reduceEqDiff, or_false, false_or, or_true, true_or, or_self, ↓reduceIte, Nat.reduceAdd, Nat.add_zero, Nat.zero_add, and_true, true_and, ne_eq, reduceCtorEq, false_implies, implies_true, forall_const, Bool.false_eq_true])) (fun a b c e h1 => ?_)
  obtain ⟨rfl, rfl, rfl, rfl⟩ := h1
  have hx : Tr kd (i + 1) b c e (if kd i = 4 ∨ kd i = 5 then pMove kd (i + 1) else pSum kd 8 (i + 1)) (rel (i + 1) b c e) := by
    split
    · exact G_move _ _ _ _ (by unfold pre at *; omega)
    · exact G_sum kd 8 _ _ _ _ (by unfold pre at *; omega)
  refine Tr_seq hx (fun a b c e h1 => Tr_seq (K1 := KE a b c e) (by unfold KE; (simp only [pOk, pNo, Tr, chk, ckA, cnt, bWd, bNm, bSt, bSk, live, aSk, aRole, aPut, aNum, aNam, aStep, aLook, aRoof, aNew, aRng, aPig, aFull, aOrd, aM1, aM2, aOB, aOR, aOT, aOE, aDeep, aUp, rel, rel1, Nat.reduceEqDiff, or_false, false_or, or_true, true_or, or_self, ↓reduceIte, Nat.reduceAdd, Nat.add_zero, Nat.zero_add, and_true, true_and, ne_eq, reduceCtorEq, false_implies, implies_true, forall_const, Bool.false_eq_true])) (fun a' b' c' e' h2 => ?_))
  obtain ⟨rfl, rfl, rfl, rfl⟩ := h2
  refine Tr_seq (G_when _ _ _ _ (by unfold pre rel at *; omega)) (fun a b c e h2 => ?_)
  (simp only [rel, rel1, pre, live] at * ; (simp only [pOk, pNo, Tr, chk, ckA, cnt, bWd, bNm, bSt, bSk, live, aSk, aRole, aPut, aNum, aNam, aStep, aLook, aRoof, aNew, aRng, aPig, aFull, aOrd, aM1, aM2, aOB, aOR, aOT, aOE, aDeep, aUp, rel, rel1, Nat.reduceEqDiff, or_false, false_or, or_true, true_or, or_self, ↓reduceIte, Nat.reduceAdd, Nat.add_zero, Nat.zero_add, and_true, true_and, ne_eq, reduceCtorEq, false_implies, implies_true, forall_const, Bool.false_eq_true]) ; try omega)
theorem G_line {kd : Nat → Nat} : Gd kd (pLine kd) := by
  intro i w o s h
  unfold pLine
  split
  · exact G_ord i w o s h
  · exact G_pig i w o s h
theorem G_lines {kd : Nat → Nat} : ∀ m, Gd kd (pLines kd m)
  | 0 => fun i w o s h => by
    rw [pLines]
    (simp only [rel, rel1, pre, live] at * ; (simp only [pOk, pNo, Tr, chk, ckA, cnt, bWd, bNm, bSt, bSk, live, aSk, aRole, aPut, aNum, aNam, aStep, aLook, aRoof, aNew, aRng, aPig, aFull, aOrd, aM1, aM2, aOB, aOR, aOT, aOE, aDeep, aUp, rel, rel1, Nat.reduceEqDiff, or_false, false_or, or_true, true_or, or_self, ↓reduceIte, Nat.reduceAdd, Nat.add_zero, Nat.zero_add, and_true, true_and, ne_eq, reduceCtorEq, false_implies, implies_true, forall_const, Bool.false_eq_true]) ; try omega)
  | m + 1 => fun i w o s h => by
    rw [pLines]
    split
    · (simp only [rel, rel1, pre, live] at * ; (simp only [pOk, pNo, Tr, chk, ckA, cnt, bWd, bNm, bSt, bSk, live, aSk, aRole, aPut, aNum, aNam, aStep, aLook, aRoof, aNew, aRng, aPig, aFull, aOrd, aM1, aM2, aOB, aOR, aOT, aOE, aDeep, aUp, rel, rel1, Nat.reduceEqDiff, or_false, false_or, or_true, true_or, or_self, ↓reduceIte, Nat.reduceAdd, Nat.add_zero, Nat.zero_add, and_true, true_and, ne_eq, reduceCtorEq, false_implies, implies_true, forall_const, Bool.false_eq_true]) ; try omega)
    · refine Tr_seq (K1 := rel i w o s) (Tr_seq (G_line i w o s h) (fun a b c e h1 => Tr_w G_take (fun a' b' c' e' h2 => by unfold rel at *; omega))) (fun a b c e h1 => ?_)
      exact Tr_w (G_lines m _ _ _ _ (by unfold pre rel at *; omega)) (fun a b c e h2 => by unfold rel at *; omega)
theorem G_roofL {kd : Nat → Nat} : ∀ m, Gd kd (pRoofL kd m)
  | 0 => fun i w o s h => by
    rw [pRoofL]
    (simp only [rel, rel1, pre, live] at * ; (simp only [pOk, pNo, Tr, chk, ckA, cnt, bWd, bNm, bSt, bSk, live, aSk, aRole, aPut, aNum, aNam, aStep, aLook, aRoof, aNew, aRng, aPig, aFull, aOrd, aM1, aM2, aOB, aOR, aOT, aOE, aDeep, aUp, rel, rel1, Nat.reduceEqDiff, or_false, false_or, or_true, true_or, or_self, ↓reduceIte, Nat.reduceAdd, Nat.add_zero, Nat.zero_add, and_true, true_and, ne_eq, reduceCtorEq, false_implies, implies_true, forall_const, Bool.false_eq_true]) ; try omega)
  | m + 1 => fun i w o s h => by
    rw [pRoofL]
    split
    · refine Tr_seq (K1 := KE (i + 1) w o s) (by unfold KE; (simp only [pOk, pNo, Tr, chk, ckA, cnt, bWd, bNm, bSt, bSk, live, aSk, aRole, aPut, aNum, aNam, aStep, aLook, aRoof, aNew, aRng, aPig, aFull, aOrd, aM1, aM2, aOB, aOR, aOT, aOE, aDeep, aUp, rel, rel1, Nat.reduceEqDiff, or_false, false_or, or_true, true_or, or_self, ↓reduceIte, Nat.reduceAdd, Nat.add_zero, Nat.zero_add, and_true, true_and, ne_eq, reduceCtorEq, false_implies, implies_true, forall_const, Bool.false_eq_true])) (fun a b c e h1 => ?_)
      obtain ⟨rfl, rfl, rfl, rfl⟩ := h1
      exact Tr_w (G_roofL m _ _ _ _ (by unfold pre at *; omega)) (fun a b c e h2 => by unfold rel at *; omega)
    · (simp only [rel, rel1, pre, live] at * ; (simp only [pOk, pNo, Tr, chk, ckA, cnt, bWd, bNm, bSt, bSk, live, aSk, aRole, aPut, aNum, aNam, aStep, aLook, aRoof, aNew, aRng, aPig, aFull, aOrd, aM1, aM2, aOB, aOR, aOT, aOE, aDeep, aUp, rel, rel1, Nat.reduceEqDiff, or_false, false_or, or_true, true_or, or_self, ↓reduceIte, Nat.reduceAdd, Nat.add_zero, Nat.zero_add, and_true, true_and, ne_eq, reduceCtorEq, false_implies, implies_true, forall_const, Bool.false_eq_true]) ; try omega)
theorem G_roofs {kd : Nat → Nat} : Gd kd (pRoofs kd) := by
  intro i w o s h
  refine Tr_seq G_take (fun a b c e h1 => ?_)
  obtain ⟨rfl, rfl, rfl, rfl⟩ := h1
  split
  · refine Tr_seq (G_roofL _ _ _ _ _ (by unfold pre at *; omega)) (fun a b c e h2 => ?_)
    exact Tr_w G_take (fun a b c e h3 => by unfold rel at *; omega)
  · (simp only [rel, rel1, pre, live] at * ; (simp only [pOk, pNo, Tr, chk, ckA, cnt, bWd, bNm, bSt, bSk, live, aSk, aRole, aPut, aNum, aNam, aStep, aLook, aRoof, aNew, aRng, aPig, aFull, aOrd, aM1, aM2, aOB, aOR, aOT, aOE, aDeep, aUp, rel, rel1, Nat.reduceEqDiff, or_false, false_or, or_true, true_or, or_self, ↓reduceIte, Nat.reduceAdd, Nat.add_zero, Nat.zero_add, and_true, true_and, ne_eq, reduceCtorEq, false_implies, implies_true, forall_const, Bool.false_eq_true]) ; try omega)
theorem G_book {kd : Nat → Nat} : chk kd 0 0 0 0 (pBook kd).2 := by
  have h0 : pre 0 0 0 0 := ⟨Nat.le_refl _, Nat.le_refl _, Nat.le_refl _⟩
  exact (Tr_seq (K := fun _ _ _ _ => True) (G_roofs 0 0 0 0 h0) (fun i w o s h => Tr_w (G_lines _ i w o s (by unfold pre rel at *; omega)) (fun _ _ _ _ _ => trivial))).1
theorem sf_of {kd : Nat → Nat} {NT : Nat} (num : Nat → Int32) (hE : kd NT = 45 ∨ kd NT = 46) (hN : NT ≤ 400) : ∀ (t : List PA) (i w o s : Nat) (R : MR), chk kd i w o s t → i + skN t ≤ NT → rTk R = i → rSz R = w → rOp R = o → sfR num R t
  | [], _, _, _, _, _, _, _, _, _, _ => trivial
  | a :: t, i, w, o, s, R, h, hi, h1, h2, h3 => by
    obtain ⟨⟨c1, c2, c3⟩, hc⟩ := h
    have hs : bSk a + skN t = skN (a :: t) := rfl
    have hl : live kd i → i < NT := fun z => by
      unfold live at z
      rcases Nat.lt_or_eq_of_le (show i ≤ NT by omega) with q | q
      · exact q
      · subst q
        omega
    refine ⟨⟨fun q => ?_, fun q => ?_⟩, ?_⟩
    · rw [h2]
      rcases c1 (if_pos q) with r | ⟨r1, r2⟩
      · omega
      · have := hl r2
        omega
    · have := c2 (if_pos q)
      omega
    · refine sf_of num hE hN t _ _ _ _ (stepR num R a) hc (by omega) ?_ ?_ ?_
      · rw [tk_step, h1]
        rfl
      · obtain ⟨k, x, y, z⟩ := a
        unfold stepR bWd
        dsimp only
        split <;> simp_all [uWord, uOpen, rSz, uSk, uRole, uOB, uOR, uOT, uOE, uDn, uUp]
      · obtain ⟨k, x, y, z⟩ := a
        unfold stepR bNm
        dsimp only
        split <;> simp_all [uWord, uOpen, rOp, uSk, uRole, uOB, uOR, uOT, uOE, uDn, uUp]

