/-! ===== the words, names and steps of a book are few ===== -/
def bWd (a : PA) : Nat := if a.1 = 2 ∨ a.1 = 3 ∨ a.1 = 4 then 1 else 0
def bNm (a : PA) : Nat := if a.1 = 4 then 1 else 0
def bSt (a : PA) : Nat := if a.1 = 5 then 1 else 0
def bSk (a : PA) : Nat := if a.1 = 0 then 1 else 0
def live (kd : Nat → Nat) (i : Nat) : Prop := kd i ≠ 45 ∧ kd i ≠ 46
def ckA (kd : Nat → Nat) (i w o s : Nat) (a : PA) : Prop := (bWd a = 1 → w + 1 ≤ 2 * i ∨ (w + 1 ≤ 2 * i + 2 ∧ live kd i)) ∧ (bNm a = 1 → o + 1 ≤ i) ∧ (bSt a = 1 → s + 1 ≤ i ∨ (s + 1 ≤ i + 1 ∧ live kd i))
def chk (kd : Nat → Nat) : Nat → Nat → Nat → Nat → List PA → Prop
  | _, _, _, _, [] => True
  | i, w, o, s, a :: t => ckA kd i w o s a ∧ chk kd (i + bSk a) (w + bWd a) (o + bNm a) (s + bSt a) t
def cnt (f : PA → Nat) : List PA → Nat
  | [] => 0
  | a :: t => f a + cnt f t
theorem cnt_app (f : PA → Nat) : ∀ s t, cnt f (s ++ t) = cnt f s + cnt f t
  | [], t => (Nat.zero_add _).symm
  | a :: s, t => by
    show f a + cnt f (s ++ t) = f a + cnt f s + cnt f t
    rw [cnt_app f s t]
    omega
theorem cnt_sk : ∀ t, cnt bSk t = skN t
  | [] => rfl
  | a :: t => by
    show bSk a + cnt bSk t = (if a.1 = 0 then 1 else 0) + skN t
    rw [cnt_sk t]
    rfl
theorem chk_app (kd : Nat → Nat) : ∀ (t u : List PA) (i w o s : Nat), chk kd i w o s (t ++ u) ↔ chk kd i w o s t ∧ chk kd (i + cnt bSk t) (w + cnt bWd t) (o + cnt bNm t) (s + cnt bSt t) u
  | [], u, i, w, o, s => ⟨fun h => ⟨trivial, h⟩, fun h => h.2⟩
  | a :: t, u, i, w, o, s => by
    show (ckA kd i w o s a ∧ chk kd (i + bSk a) (w + bWd a) (o + bNm a) (s + bSt a) (t ++ u)) ↔ (ckA kd i w o s a ∧ chk kd (i + bSk a) (w + bWd a) (o + bNm a) (s + bSt a) t) ∧ chk kd (i + (bSk a + cnt bSk t)) (w + (bWd a + cnt bWd t)) (o + (bNm a + cnt bNm t)) (s + (bSt a + cnt bSt t)) u
    rw [chk_app kd t u, Nat.add_assoc, Nat.add_assoc, Nat.add_assoc, Nat.add_assoc, and_assoc]
abbrev PK : Type := Nat → Nat → Nat → Nat → Prop
/-- from here on all is well, and what holds afterwards -/
def Tr (kd : Nat → Nat) (i w o s : Nat) (r : PR) (K : PK) : Prop := chk kd i w o s r.2 ∧ (r.1 = true → K (i + cnt bSk r.2) (w + cnt bWd r.2) (o + cnt bNm r.2) (s + cnt bSt r.2))
theorem Tr_seq {kd : Nat → Nat} {i w o s : Nat} {a : PR} {f : Nat → PR} {K1 K : PK} (ha : Tr kd i w o s a K1) (hf : ∀ i' w' o' s', K1 i' w' o' s' → Tr kd i' w' o' s' (f i') K) : Tr kd i w o s (pSeq i a f) K := by
  unfold pSeq
  by_cases h : a.1 = true
  · rw [if_pos h]
    have h1 := hf _ _ _ _ (ha.2 h)
    rw [cnt_sk] at h1
    refine ⟨(chk_app kd _ _ i w o s).mpr ⟨ha.1, ?_⟩, fun h2 => ?_⟩
    · rw [cnt_sk]
      exact h1.1
    · have h3 := h1.2 h2
      show K (i + cnt bSk (a.2 ++ (f (i + skN a.2)).2)) (w + cnt bWd (a.2 ++ (f (i + skN a.2)).2)) (o + cnt bNm (a.2 ++ (f (i + skN a.2)).2)) (s + cnt bSt (a.2 ++ (f (i + skN a.2)).2))
      rw [cnt_app, cnt_app, cnt_app, cnt_app, cnt_sk a.2, ← Nat.add_assoc, ← Nat.add_assoc, ← Nat.add_assoc, ← Nat.add_assoc]
      exact h3
  · rw [if_neg h]
    exact ⟨ha.1, fun z => absurd z h⟩
theorem Tr_w {kd : Nat → Nat} {i w o s : Nat} {r : PR} {K K' : PK} (h : Tr kd i w o s r K) (hK : ∀ a b c e, K a b c e → K' a b c e) : Tr kd i w o s r K' := ⟨h.1, fun z => hK _ _ _ _ (h.2 z)⟩
def rel (i w o s : Nat) : PK := fun i' w' o' s' => i ≤ i' ∧ w' + 2 * i ≤ w + 2 * i' ∧ o' + i ≤ o + i' ∧ s' + i ≤ s + i'
def pre (i w o s : Nat) : Prop := w ≤ 2 * i ∧ o ≤ i ∧ s ≤ i
def Gd (kd : Nat → Nat) (p : Nat → PR) : Prop := ∀ i w o s, pre i w o s → Tr kd i w o s (p i) (rel i w o s)
/-- one that takes a token at least -/
def rel1 (i w o s : Nat) : PK := fun i' w' o' s' => i + 1 ≤ i' ∧ w' + 2 * i ≤ w + 2 * i' ∧ o' + i ≤ o + i' ∧ s' + i ≤ s + i'
theorem G_take {kd : Nat → Nat} {k i w o s : Nat} : Tr kd i w o s (pTake kd k i) (fun i' w' o' s' => i' = i + 1 ∧ w' = w ∧ o' = o ∧ s' = s) := by
  unfold pTake
  split
  · (simp only [pOk, pNo, Tr, chk, ckA, cnt, bWd, bNm, bSt, bSk, live, aSk, aRole, aPut, aNum, aNam, aStep, aLook, aRoof, aNew, aRng, aPig, aFull, aOrd, aM1, aM2, aOB, aOR, aOT, aOE, aDeep, aUp, rel, rel1, pre, Nat.reduceEqDiff, or_false, false_or, or_true, true_or, or_self, ↓reduceIte, Nat.reduceAdd, Nat.add_zero, Nat.zero_add, and_true, true_and, ne_eq, reduceCtorEq, false_implies, implies_true, forall_const, Bool.false_eq_true] at *)
  · (simp only [pOk, pNo, Tr, chk, ckA, cnt, bWd, bNm, bSt, bSk, live, aSk, aRole, aPut, aNum, aNam, aStep, aLook, aRoof, aNew, aRng, aPig, aFull, aOrd, aM1, aM2, aOB, aOR, aOT, aOE, aDeep, aUp, rel, rel1, pre, Nat.reduceEqDiff, or_false, false_or, or_true, true_or, or_self, ↓reduceIte, Nat.reduceAdd, Nat.add_zero, Nat.zero_add, and_true, true_and, ne_eq, reduceCtorEq, false_implies, implies_true, forall_const, Bool.false_eq_true] at *)
theorem G_name {kd : Nat → Nat} {i w o s : Nat} (h : w + 1 ≤ 2 * i) (h2 : o + 1 ≤ i) : Tr kd i w o s (pName kd i) (fun i' w' o' s' => i' = i + 1 ∧ w' = w + 1 ∧ o' = o + 1 ∧ s' = s) := by
  unfold pName
  split
  · (simp only [pOk, pNo, Tr, chk, ckA, cnt, bWd, bNm, bSt, bSk, live, aSk, aRole, aPut, aNum, aNam, aStep, aLook, aRoof, aNew, aRng, aPig, aFull, aOrd, aM1, aM2, aOB, aOR, aOT, aOE, aDeep, aUp, rel, rel1, pre, Nat.reduceEqDiff, or_false, false_or, or_true, true_or, or_self, ↓reduceIte, Nat.reduceAdd, Nat.add_zero, Nat.zero_add, and_true, true_and, ne_eq, reduceCtorEq, false_implies, implies_true, forall_const, Bool.false_eq_true] at *)
    omega
  · (simp only [pOk, pNo, Tr, chk, ckA, cnt, bWd, bNm, bSt, bSk, live, aSk, aRole, aPut, aNum, aNam, aStep, aLook, aRoof, aNew, aRng, aPig, aFull, aOrd, aM1, aM2, aOB, aOR, aOT, aOE, aDeep, aUp, rel, rel1, pre, Nat.reduceEqDiff, or_false, false_or, or_true, true_or, or_self, ↓reduceIte, Nat.reduceAdd, Nat.add_zero, Nat.zero_add, and_true, true_and, ne_eq, reduceCtorEq, false_implies, implies_true, forall_const, Bool.false_eq_true] at *)
    omega

