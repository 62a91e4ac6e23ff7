/-! ===== the words, names and steps of a book are few: the grammar ===== -/
theorem lv {kd : Nat → Nat} {i k : Nat} (h : kd i = k) (hk : k ≠ 45 ∧ k ≠ 46) : live kd i := by
  unfold live
  omega
def KE (i w o s : Nat) : PK := fun i' w' o' s' => i' = i ∧ w' = w ∧ o' = o ∧ s' = s
def GdO (kd : Nat → Nat) (dp : Option (Nat → PR)) : Prop := ∀ f, dp = some f → Gd kd f
theorem G_into {kd : Nat → Nat} {dp : Option (Nat → PR)} {rest : Nat → PR} {K : PK} {i w o s : Nat} (hp : pre i w o s) (hd : GdO kd dp) (hr : ∀ i' w' o' s', rel (i + 1) w o s i' w' o' s' → Tr kd i' w' o' s' (rest i') K) : Tr kd i w o s (pInto dp i rest) K := by
  unfold pInto
  cases dp with
  | none => exact ⟨trivial, fun h => absurd h Bool.false_ne_true⟩
  | some f =>
    refine Tr_seq (K1 := KE (i + 1) w o s) (by unfold KE; (simp only [pOk, pNo, Tr, chk, ckA, cnt, bWd, bNm, bSt, bSk, live, aSk, aRole, aPut, aNum, aNam, aStep, aLook, aRoof, aNew, aRng, aPig, aFull, aOrd, aM1, aM2, aOB, aOR, aOT, aOE, aDeep, aUp, rel, rel1, Nat.reduceEqDiff, or_false, false_or, or_true, true_or, or_self, ↓reduceIte, Nat.reduceAdd, Nat.add_zero, Nat.zero_add, and_true, true_and, ne_eq, reduceCtorEq, false_implies, implies_true, forall_const, Bool.false_eq_true])) (fun i' w' o' s' h => ?_)
    obtain ⟨rfl, rfl, rfl, rfl⟩ := h
    refine Tr_seq (hd f rfl _ _ _ _ (by unfold pre at *; omega)) (fun i' w' o' s' h => hr i' w' o' s' h)
theorem G_loop {kd : Nat → Nat} {k1 k2 : Nat} {part : Nat → PR} (hp : Gd kd part) : ∀ m, Gd kd (pLoop kd k1 k2 part m)
  | 0 => fun i w o s h => by
    rw [pLoop]
    (simp only [rel, rel1, pre, live] at * ; (simp only [pOk, pNo, Tr, chk, ckA, cnt, bWd, bNm, bSt, bSk, live, aSk, aRole, aPut, aNum, aNam, aStep, aLook, aRoof, aNew, aRng, aPig, aFull, aOrd, aM1, aM2, aOB, aOR, aOT, aOE, aDeep, aUp, rel, rel1, Nat.reduceEqDiff, or_false, false_or, or_true, true_or, or_self, ↓reduceIte, Nat.reduceAdd, Nat.add_zero, Nat.zero_add, and_true, true_and, ne_eq, reduceCtorEq, false_implies, implies_true, forall_const, Bool.false_eq_true]) ; try omega)
  | m + 1 => fun i w o s h => by
    rw [pLoop]
    split
    · refine Tr_seq (K1 := rel1 i w o s) (Tr_seq (K1 := KE (i + 1) w o s) (by unfold KE; (simp only [pOk, pNo, Tr, chk, ckA, cnt, bWd, bNm, bSt, bSk, live, aSk, aRole, aPut, aNum, aNam, aStep, aLook, aRoof, aNew, aRng, aPig, aFull, aOrd, aM1, aM2, aOB, aOR, aOT, aOE, aDeep, aUp, rel, rel1, Nat.reduceEqDiff, or_false, false_or, or_true, true_or, or_self, ↓reduceIte, Nat.reduceAdd, Nat.add_zero, Nat.zero_add, and_true, true_and, ne_eq, reduceCtorEq, false_implies, implies_true, forall_const, Bool.false_eq_true])) (fun i' w' o' s' h1 => ?_)) (fun i' w' o' s' h1 => ?_)
      · obtain ⟨rfl, rfl, rfl, rfl⟩ := h1
        refine Tr_seq (hp _ _ _ _ (by unfold pre at *; omega)) (fun i' w' o' s' h2 => ?_)
        (simp only [rel, rel1, pre, live] at * ; (simp only [pOk, pNo, Tr, chk, ckA, cnt, bWd, bNm, bSt, bSk, live, aSk, aRole, aPut, aNum, aNam, aStep, aLook, aRoof, aNew, aRng, aPig, aFull, aOrd, aM1, aM2, aOB, aOR, aOT, aOE, aDeep, aUp, rel, rel1, Nat.reduceEqDiff, or_false, false_or, or_true, true_or, or_self, ↓reduceIte, Nat.reduceAdd, Nat.add_zero, Nat.zero_add, and_true, true_and, ne_eq, reduceCtorEq, false_implies, implies_true, forall_const, Bool.false_eq_true]) ; try omega)
      · refine Tr_w (G_loop hp m i' w' o' s' ?_) (fun a b c e h2 => ?_)
        · unfold pre rel1 at *; omega
        · unfold rel rel1 at *; omega
    · (simp only [rel, rel1, pre, live] at * ; (simp only [pOk, pNo, Tr, chk, ckA, cnt, bWd, bNm, bSt, bSk, live, aSk, aRole, aPut, aNum, aNam, aStep, aLook, aRoof, aNew, aRng, aPig, aFull, aOrd, aM1, aM2, aOB, aOR, aOT, aOE, aDeep, aUp, rel, rel1, Nat.reduceEqDiff, or_false, false_or, or_true, true_or, or_self, ↓reduceIte, Nat.reduceAdd, Nat.add_zero, Nat.zero_add, and_true, true_and, ne_eq, reduceCtorEq, false_implies, implies_true, forall_const, Bool.false_eq_true]) ; try omega)
theorem G_many {kd : Nat → Nat} {k1 k2 : Nat} {part : Nat → PR} (hp : Gd kd part) : Gd kd (pMany kd k1 k2 part) := by
  intro i w o s h
  refine Tr_seq (hp i w o s h) (fun i' w' o' s' h1 => Tr_w (G_loop hp _ i' w' o' s' ?_) (fun a b c e h2 => ?_))
  · unfold pre rel at *; omega
  · unfold rel at *; omega
theorem G_par {kd : Nat → Nat} {sd : Option (Nat → PR)} (hs : GdO kd sd) : Gd kd (pPar kd sd) := by
  intro i w o s h
  refine G_into h hs (fun i' w' o' s' h1 => Tr_seq (K1 := KE i' w' o' s') (by unfold KE; (simp only [pOk, pNo, Tr, chk, ckA, cnt, bWd, bNm, bSt, bSk, live, aSk, aRole, aPut, aNum, aNam, aStep, aLook, aRoof, aNew, aRng, aPig, aFull, aOrd, aM1, aM2, aOB, aOR, aOT, aOE, aDeep, aUp, rel, rel1, Nat.reduceEqDiff, or_false, false_or, or_true, true_or, or_self, ↓reduceIte, Nat.reduceAdd, Nat.add_zero, Nat.zero_add, and_true, true_and, ne_eq, reduceCtorEq, false_implies, implies_true, forall_const, Bool.false_eq_true])) (fun a b c e h2 => ?_))
  obtain ⟨rfl, rfl, rfl, rfl⟩ := h2
  exact Tr_w G_take (fun a b c e h3 => by unfold rel at *; omega)
theorem G_fun1 {kd : Nat → Nat} {sd : Option (Nat → PR)} (hs : GdO kd sd) : Gd kd (pFun1 kd sd) := by
  intro i w o s h
  refine Tr_seq (K1 := KE (i + 1) w o s) (by unfold KE; (simp only [pOk, pNo, Tr, chk, ckA, cnt, bWd, bNm, bSt, bSk, live, aSk, aRole, aPut, aNum, aNam, aStep, aLook, aRoof, aNew, aRng, aPig, aFull, aOrd, aM1, aM2, aOB, aOR, aOT, aOE, aDeep, aUp, rel, rel1, Nat.reduceEqDiff, or_false, false_or, or_true, true_or, or_self, ↓reduceIte, Nat.reduceAdd, Nat.add_zero, Nat.zero_add, and_true, true_and, ne_eq, reduceCtorEq, false_implies, implies_true, forall_const, Bool.false_eq_true])) (fun a b c e h1 => ?_)
  obtain ⟨rfl, rfl, rfl, rfl⟩ := h1
  split
  · refine G_into (by unfold pre at *; omega) hs (fun i' w' o' s' h1 => Tr_seq (K1 := KE i' w' o' (s' + 1)) (by unfold KE; (simp only [rel, rel1, pre, live] at * ; (simp only [pOk, pNo, Tr, chk, ckA, cnt, bWd, bNm, bSt, bSk, live, aSk, aRole, aPut, aNum, aNam, aStep, aLook, aRoof, aNew, aRng, aPig, aFull, aOrd, aM1, aM2, aOB, aOR, aOT, aOE, aDeep, aUp, rel, rel1, Nat.reduceEqDiff, or_false, false_or, or_true, true_or, or_self, ↓reduceIte, Nat.reduceAdd, Nat.add_zero, Nat.zero_add, and_true, true_and, ne_eq, reduceCtorEq, false_implies, implies_true, forall_const, Bool.false_eq_true]) ; try omega)) (fun a b c e h2 => ?_))
    obtain ⟨rfl, rfl, rfl, rfl⟩ := h2
    refine Tr_seq G_take (fun a b c e h2 => ?_)
    (simp only [rel, rel1, pre, live] at * ; (simp only [pOk, pNo, Tr, chk, ckA, cnt, bWd, bNm, bSt, bSk, live, aSk, aRole, aPut, aNum, aNam, aStep, aLook, aRoof, aNew, aRng, aPig, aFull, aOrd, aM1, aM2, aOB, aOR, aOT, aOE, aDeep, aUp, rel, rel1, Nat.reduceEqDiff, or_false, false_or, or_true, true_or, or_self, ↓reduceIte, Nat.reduceAdd, Nat.add_zero, Nat.zero_add, and_true, true_and, ne_eq, reduceCtorEq, false_implies, implies_true, forall_const, Bool.false_eq_true]) ; try omega)
  · (simp only [rel, rel1, pre, live] at * ; (simp only [pOk, pNo, Tr, chk, ckA, cnt, bWd, bNm, bSt, bSk, live, aSk, aRole, aPut, aNum, aNam, aStep, aLook, aRoof, aNew, aRng, aPig, aFull, aOrd, aM1, aM2, aOB, aOR, aOT, aOE, aDeep, aUp, rel, rel1, Nat.reduceEqDiff, or_false, false_or, or_true, true_or, or_self, ↓reduceIte, Nat.reduceAdd, Nat.add_zero, Nat.zero_add, and_true, true_and, ne_eq, reduceCtorEq, false_implies, implies_true, forall_const, Bool.false_eq_true]) ; try omega)
theorem G_fun2 {kd : Nat → Nat} {sd : Option (Nat → PR)} (hs : GdO kd sd) : Gd kd (pFun2 kd sd) := by
  intro i w o s h
  refine Tr_seq (K1 := KE (i + 1) w o s) (by unfold KE; (simp only [pOk, pNo, Tr, chk, ckA, cnt, bWd, bNm, bSt, bSk, live, aSk, aRole, aPut, aNum, aNam, aStep, aLook, aRoof, aNew, aRng, aPig, aFull, aOrd, aM1, aM2, aOB, aOR, aOT, aOE, aDeep, aUp, rel, rel1, Nat.reduceEqDiff, or_false, false_or, or_true, true_or, or_self, ↓reduceIte, Nat.reduceAdd, Nat.add_zero, Nat.zero_add, and_true, true_and, ne_eq, reduceCtorEq, false_implies, implies_true, forall_const, Bool.false_eq_true])) (fun a b c e h1 => ?_)
  obtain ⟨rfl, rfl, rfl, rfl⟩ := h1
  split
  · refine G_into (by unfold pre at *; omega) hs (fun i' w' o' s' h1 => Tr_seq G_take (fun a b c e h2 => ?_))
    obtain ⟨rfl, rfl, rfl, rfl⟩ := h2
    have hg : Gd kd (sd.getD (fun _ => pNo [])) := by
      cases sd with
      | none => exact fun i w o s h => by show Tr kd i w o s (pNo []) _; (simp only [rel, rel1, pre, live] at * ; (simp only [pOk, pNo, Tr, chk, ckA, cnt, bWd, bNm, bSt, bSk, live, aSk, aRole, aPut, aNum, aNam, aStep, aLook, aRoof, aNew, aRng, aPig, aFull, aOrd, aM1, aM2, aOB, aOR, aOT, aOE, aDeep, aUp, rel, rel1, Nat.reduceEqDiff, or_false, false_or, or_true, true_or, or_self, ↓reduceIte, Nat.reduceAdd, Nat.add_zero, Nat.zero_add, and_true, true_and, ne_eq, reduceCtorEq, false_implies, implies_true, forall_const, Bool.false_eq_true]) ; try omega)
      | some f => exact hs f rfl
    refine Tr_seq (hg _ _ _ _ (by unfold pre rel at *; omega)) (fun a b c e h3 => Tr_seq (K1 := KE a (b + 1) c (e + 1)) (by unfold KE; (simp only [rel, rel1, pre, live] at * ; (simp only [pOk, pNo, Tr, chk, ckA, cnt, bWd, bNm, bSt, bSk, live, aSk, aRole, aPut, aNum, aNam, aStep, aLook, aRoof, aNew, aRng, aPig, aFull, aOrd, aM1, aM2, aOB, aOR, aOT, aOE, aDeep, aUp, rel, rel1, Nat.reduceEqDiff, or_false, false_or, or_true, true_or, or_self, ↓reduceIte, Nat.reduceAdd, Nat.add_zero, Nat.zero_add, and_true, true_and, ne_eq, reduceCtorEq, false_implies, implies_true, forall_const, Bool.false_eq_true]) ; try omega)) (fun a' b' c' e' h4 => ?_))
    obtain ⟨rfl, rfl, rfl, rfl⟩ := h4
    exact Tr_w G_take (fun a b c e h5 => by unfold rel at *; omega)
  · (simp only [rel, rel1, pre, live] at * ; (simp only [pOk, pNo, Tr, chk, ckA, cnt, bWd, bNm, bSt, bSk, live, aSk, aRole, aPut, aNum, aNam, aStep, aLook, aRoof, aNew, aRng, aPig, aFull, aOrd, aM1, aM2, aOB, aOR, aOT, aOE, aDeep, aUp, rel, rel1, Nat.reduceEqDiff, or_false, false_or, or_true, true_or, or_self, ↓reduceIte, Nat.reduceAdd, Nat.add_zero, Nat.zero_add, and_true, true_and, ne_eq, reduceCtorEq, false_implies, implies_true, forall_const, Bool.false_eq_true]) ; try omega)
theorem G_named {kd : Nat → Nat} {i w o s : Nat} (h : pre i w o s) (hl : live kd i) : Tr kd i w o s (pNamed kd i) (rel i w o s) := by
  refine Tr_seq (K1 := KE (i + 1) (w + 1) o s) (by unfold KE; (simp only [rel, rel1, pre, live] at * ; (simp only [pOk, pNo, Tr, chk, ckA, cnt, bWd, bNm, bSt, bSk, live, aSk, aRole, aPut, aNum, aNam, aStep, aLook, aRoof, aNew, aRng, aPig, aFull, aOrd, aM1, aM2, aOB, aOR, aOT, aOE, aDeep, aUp, rel, rel1, Nat.reduceEqDiff, or_false, false_or, or_true, true_or, or_self, ↓reduceIte, Nat.reduceAdd, Nat.add_zero, Nat.zero_add, and_true, true_and, ne_eq, reduceCtorEq, false_implies, implies_true, forall_const, Bool.false_eq_true]) ; try omega)) (fun a b c e h1 => ?_)
  obtain ⟨rfl, rfl, rfl, rfl⟩ := h1
  refine Tr_seq G_take (fun a b c e h2 => ?_)
  refine Tr_seq (G_name (by unfold pre at *; omega) (by unfold pre at *; omega)) (fun a b c e h3 => ?_)
  (simp only [rel, rel1, pre, live] at * ; (simp only [pOk, pNo, Tr, chk, ckA, cnt, bWd, bNm, bSt, bSk, live, aSk, aRole, aPut, aNum, aNam, aStep, aLook, aRoof, aNew, aRng, aPig, aFull, aOrd, aM1, aM2, aOB, aOR, aOT, aOE, aDeep, aUp, rel, rel1, Nat.reduceEqDiff, or_false, false_or, or_true, true_or, or_self, ↓reduceIte, Nat.reduceAdd, Nat.add_zero, Nat.zero_add, and_true, true_and, ne_eq, reduceCtorEq, false_implies, implies_true, forall_const, Bool.false_eq_true]) ; try omega)
theorem G_value {kd : Nat → Nat} {vd sd : Option (Nat → PR)} (hv : GdO kd vd) (hs : GdO kd sd) : Gd kd (pValue kd vd sd) := by
  intro i w o s h
  unfold pValue
  split
  · rename_i q
    have hl := lv q (by decide)
    (simp only [rel, rel1, pre, live] at * ; (simp only [pOk, pNo, Tr, chk, ckA, cnt, bWd, bNm, bSt, bSk, live, aSk, aRole, aPut, aNum, aNam, aStep, aLook, aRoof, aNew, aRng, aPig, aFull, aOrd, aM1, aM2, aOB, aOR, aOT, aOE, aDeep, aUp, rel, rel1, Nat.reduceEqDiff, or_false, false_or, or_true, true_or, or_self, ↓reduceIte, Nat.reduceAdd, Nat.add_zero, Nat.zero_add, and_true, true_and, ne_eq, reduceCtorEq, false_implies, implies_true, forall_const, Bool.false_eq_true]) ; try omega)
  · split
    · rename_i q
      have hl : live kd i := by unfold live; omega
      (simp only [rel, rel1, pre, live] at * ; (simp only [pOk, pNo, Tr, chk, ckA, cnt, bWd, bNm, bSt, bSk, live, aSk, aRole, aPut, aNum, aNam, aStep, aLook, aRoof, aNew, aRng, aPig, aFull, aOrd, aM1, aM2, aOB, aOR, aOT, aOE, aDeep, aUp, rel, rel1, Nat.reduceEqDiff, or_false, false_or, or_true, true_or, or_self, ↓reduceIte, Nat.reduceAdd, Nat.add_zero, Nat.zero_add, and_true, true_and, ne_eq, reduceCtorEq, false_implies, implies_true, forall_const, Bool.false_eq_true]) ; try omega)
    · split
      · rename_i q
        exact G_named h (by unfold live; omega)
      · split
        · refine G_into h hv (fun i' w' o' s' h1 => ?_)
          (simp only [rel, rel1, pre, live] at * ; (simp only [pOk, pNo, Tr, chk, ckA, cnt, bWd, bNm, bSt, bSk, live, aSk, aRole, aPut, aNum, aNam, aStep, aLook, aRoof, aNew, aRng, aPig, aFull, aOrd, aM1, aM2, aOB, aOR, aOT, aOE, aDeep, aUp, rel, rel1, Nat.reduceEqDiff, or_false, false_or, or_true, true_or, or_self, ↓reduceIte, Nat.reduceAdd, Nat.add_zero, Nat.zero_add, and_true, true_and, ne_eq, reduceCtorEq, false_implies, implies_true, forall_const, Bool.false_eq_true]) ; try omega)
        · split
          · exact G_par hs i w o s h
          · split
            · exact G_fun1 hs i w o s h
            · split
              · exact G_fun2 hs i w o s h
              · (simp only [rel, rel1, pre, live] at * ; (simp only [pOk, pNo, Tr, chk, ckA, cnt, bWd, bNm, bSt, bSk, live, aSk, aRole, aPut, aNum, aNam, aStep, aLook, aRoof, aNew, aRng, aPig, aFull, aOrd, aM1, aM2, aOB, aOR, aOT, aOE, aDeep, aUp, rel, rel1, Nat.reduceEqDiff, or_false, false_or, or_true, true_or, or_self, ↓reduceIte, Nat.reduceAdd, Nat.add_zero, Nat.zero_add, and_true, true_and, ne_eq, reduceCtorEq, false_implies, implies_true, forall_const, Bool.false_eq_true]) ; try omega)
theorem G_lev (kd : Nat → Nat) : ∀ e, Gd kd (pLev kd e).1 ∧ Gd kd (pLev kd e).2
  | 0 => ⟨G_value (fun _ h => nomatch h) (fun _ h => nomatch h), G_many (G_many (G_value (fun _ h => nomatch h) (fun _ h => nomatch h)))⟩
  | e + 1 => by
    obtain ⟨h1, h2⟩ := G_lev kd e
    have g1 : GdO kd (some (pLev kd e).1) := fun f hf => by cases hf; exact h1
    have g2 : GdO kd (some (pLev kd e).2) := fun f hf => by cases hf; exact h2
    exact ⟨G_value g1 g2, G_many (G_many (G_value g1 g2))⟩
theorem G_cmp {kd : Nat → Nat} {sum : Nat → PR} (hs : Gd kd sum) : Gd kd (pCmp kd sum) := by
  intro i w o s h
  refine Tr_seq (hs i w o s h) (fun i' w' o' s' h1 => ?_)
  split
  · refine Tr_seq (K1 := KE (i' + 1) w' o' s') (by unfold KE; (simp only [pOk, pNo, Tr, chk, ckA, cnt, bWd, bNm, bSt, bSk, live, aSk, aRole, aPut, aNum, aNam, aStep, aLook, aRoof, aNew, aRng, aPig, aFull, aOrd, aM1, aM2, aOB, aOR, aOT, aOE, aDeep, aUp, rel, rel1, Nat.reduceEqDiff, or_false, false_or, or_true, true_or, or_self, ↓reduceIte, Nat.reduceAdd, Nat.add_zero, Nat.zero_add, and_true, true_and, ne_eq, reduceCtorEq, false_implies, implies_true, forall_const, Bool.false_eq_true])) (fun a b c e h2 => ?_)
    obtain ⟨rfl, rfl, rfl, rfl⟩ := h2
    refine Tr_seq (hs _ _ _ _ (by unfold pre rel at *; omega)) (fun a b c e h3 => ?_)
    (simp only [rel, rel1, pre, live] at * ; (simp only [pOk, pNo, Tr, chk, ckA, cnt, bWd, bNm, bSt, bSk, live, aSk, aRole, aPut, aNum, aNam, aStep, aLook, aRoof, aNew, aRng, aPig, aFull, aOrd, aM1, aM2, aOB, aOR, aOT, aOE, aDeep, aUp, rel, rel1, Nat.reduceEqDiff, or_false, false_or, or_true, true_or, or_self, ↓reduceIte, Nat.reduceAdd, Nat.add_zero, Nat.zero_add, and_true, true_and, ne_eq, reduceCtorEq, false_implies, implies_true, forall_const, Bool.false_eq_true]) ; try omega)
  · (simp only [rel, rel1, pre, live] at * ; (simp only [pOk, pNo, Tr, chk, ckA, cnt, bWd, bNm, bSt, bSk, live, aSk, aRole, aPut, aNum, aNam, aStep, aLook, aRoof, aNew, aRng, aPig, aFull, aOrd, aM1, aM2, aOB, aOR, aOT, aOE, aDeep, aUp, rel, rel1, Nat.reduceEqDiff, or_false, false_or, or_true, true_or, or_self, ↓reduceIte, Nat.reduceAdd, Nat.add_zero, Nat.zero_add, and_true, true_and, ne_eq, reduceCtorEq, false_implies, implies_true, forall_const, Bool.false_eq_true]) ; try omega)
theorem G_pair {kd : Nat → Nat} {i w o s : Nat} (h : pre i w o s) (hl : live kd i) : Tr kd i w o s (pPair kd i) (rel i w o s) := by
  refine Tr_seq (K1 := KE (i + 1) (w + 1) o s) (by unfold KE; (simp only [rel, rel1, pre, live] at * ; (simp only [pOk, pNo, Tr, chk, ckA, cnt, bWd, bNm, bSt, bSk, live, aSk, aRole, aPut, aNum, aNam, aStep, aLook, aRoof, aNew, aRng, aPig, aFull, aOrd, aM1, aM2, aOB, aOR, aOT, aOE, aDeep, aUp, rel, rel1, Nat.reduceEqDiff, or_false, false_or, or_true, true_or, or_self, ↓reduceIte, Nat.reduceAdd, Nat.add_zero, Nat.zero_add, and_true, true_and, ne_eq, reduceCtorEq, false_implies, implies_true, forall_const, Bool.false_eq_true]) ; try omega)) (fun a b c e h1 => ?_)
  obtain ⟨rfl, rfl, rfl, rfl⟩ := h1
  refine Tr_seq (G_name (by unfold pre at *; omega) (by unfold pre at *; omega)) (fun a b c e h2 => ?_)
  refine Tr_seq (G_name (by unfold pre at *; omega) (by unfold pre at *; omega)) (fun a b c e h3 => ?_)
  (simp only [rel, rel1, pre, live] at * ; (simp only [pOk, pNo, Tr, chk, ckA, cnt, bWd, bNm, bSt, bSk, live, aSk, aRole, aPut, aNum, aNam, aStep, aLook, aRoof, aNew, aRng, aPig, aFull, aOrd, aM1, aM2, aOB, aOR, aOT, aOE, aDeep, aUp, rel, rel1, Nat.reduceEqDiff, or_false, false_or, or_true, true_or, or_self, ↓reduceIte, Nat.reduceAdd, Nat.add_zero, Nat.zero_add, and_true, true_and, ne_eq, reduceCtorEq, false_implies, implies_true, forall_const, Bool.false_eq_true]) ; try omega)
theorem G_single {kd : Nat → Nat} {gd td : Option (Nat → PR)} {sum : Nat → PR} (hg : GdO kd gd) (ht : GdO kd td) (hs : Gd kd sum) : Gd kd (pSingle kd gd td sum) := by
  intro i w o s h
  unfold pSingle
  split
  · refine G_into h hg (fun i' w' o' s' h1 => ?_)
    (simp only [rel, rel1, pre, live] at * ; (simp only [pOk, pNo, Tr, chk, ckA, cnt, bWd, bNm, bSt, bSk, live, aSk, aRole, aPut, aNum, aNam, aStep, aLook, aRoof, aNew, aRng, aPig, aFull, aOrd, aM1, aM2, aOB, aOR, aOT, aOE, aDeep, aUp, rel, rel1, Nat.reduceEqDiff, or_false, false_or, or_true, true_or, or_self, ↓reduceIte, Nat.reduceAdd, Nat.add_zero, Nat.zero_add, and_true, true_and, ne_eq, reduceCtorEq, false_implies, implies_true, forall_const, Bool.false_eq_true]) ; try omega)
  · split
    · refine G_into h ht (fun i' w' o' s' h1 => Tr_seq (K1 := KE i' w' o' s') (by unfold KE; (simp only [pOk, pNo, Tr, chk, ckA, cnt, bWd, bNm, bSt, bSk, live, aSk, aRole, aPut, aNum, aNam, aStep, aLook, aRoof, aNew, aRng, aPig, aFull, aOrd, aM1, aM2, aOB, aOR, aOT, aOE, aDeep, aUp, rel, rel1, Nat.reduceEqDiff, or_false, false_or, or_true, true_or, or_self, ↓reduceIte, Nat.reduceAdd, Nat.add_zero, Nat.zero_add, and_true, true_and, ne_eq, reduceCtorEq, false_implies, implies_true, forall_const, Bool.false_eq_true])) (fun a b c e h2 => ?_))
      obtain ⟨rfl, rfl, rfl, rfl⟩ := h2
      exact Tr_w G_take (fun a b c e h3 => by unfold rel at *; omega)
    · split
      · exact G_pair h (by unfold live; omega)
      · split
        · refine Tr_seq (K1 := KE (i + 1) w o s) (by unfold KE; (simp only [pOk, pNo, Tr, chk, ckA, cnt, bWd, bNm, bSt, bSk, live, aSk, aRole, aPut, aNum, aNam, aStep, aLook, aRoof, aNew, aRng, aPig, aFull, aOrd, aM1, aM2, aOB, aOR, aOT, aOE, aDeep, aUp, rel, rel1, Nat.reduceEqDiff, or_false, false_or, or_true, true_or, or_self, ↓reduceIte, Nat.reduceAdd, Nat.add_zero, Nat.zero_add, and_true, true_and, ne_eq, reduceCtorEq, false_implies, implies_true, forall_const, Bool.false_eq_true])) (fun a b c e h1 => ?_)
          obtain ⟨rfl, rfl, rfl, rfl⟩ := h1
          refine Tr_seq (hs _ _ _ _ (by unfold pre at *; omega)) (fun a b c e h2 => ?_)
          (simp only [rel, rel1, pre, live] at * ; (simp only [pOk, pNo, Tr, chk, ckA, cnt, bWd, bNm, bSt, bSk, live, aSk, aRole, aPut, aNum, aNam, aStep, aLook, aRoof, aNew, aRng, aPig, aFull, aOrd, aM1, aM2, aOB, aOR, aOT, aOE, aDeep, aUp, rel, rel1, Nat.reduceEqDiff, or_false, false_or, or_true, true_or, or_self, ↓reduceIte, Nat.reduceAdd, Nat.add_zero, Nat.zero_add, and_true, true_and, ne_eq, reduceCtorEq, false_implies, implies_true, forall_const, Bool.false_eq_true]) ; try omega)
        · exact G_cmp hs i w o s h
theorem G_sum (kd : Nat → Nat) (e : Nat) : Gd kd (pSum kd e) := (G_lev kd e).2
theorem G_tev (kd : Nat → Nat) : ∀ e, Gd kd (pTev kd e).1 ∧ Gd kd (pTev kd e).2
  | 0 => ⟨G_single (fun _ h => nomatch h) (fun _ h => nomatch h) (G_sum kd 0), G_many (G_many (G_single (fun _ h => nomatch h) (fun _ h => nomatch h) (G_sum kd 0)))⟩
  | e + 1 => by
    obtain ⟨h1, h2⟩ := G_tev kd e
    have g1 : GdO kd (some (pTev kd e).1) := fun f hf => by cases hf; exact h1
    have g2 : GdO kd (some (pTev kd e).2) := fun f hf => by cases hf; exact h2
    exact ⟨G_single g1 g2 (G_sum kd _), G_many (G_many (G_single g1 g2 (G_sum kd _)))⟩

