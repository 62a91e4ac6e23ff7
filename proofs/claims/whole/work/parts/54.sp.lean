/-! ===== the grammar: what is taken, and what is done on the way ===== -/
abbrev PA : Type := Nat × Nat × Nat × Nat
abbrev PR : Type := Bool × List PA
def aSk : PA := (0, 0, 0, 0)
def aRole (r : Nat) : PA := (1, r, 0, 0)
def aPut (k : Nat) : PA := (2, k, 0, 0)
def aNum : PA := (3, 0, 0, 0)
def aNam : PA := (4, 0, 0, 0)
def aStep (k a b : Nat) : PA := (5, k, a, b)
def aLook : PA := (6, 0, 0, 0)
def aRoof : PA := (7, 0, 0, 0)
def aNew : PA := (8, 0, 0, 0)
def aRng (z : Nat) : PA := (9, z, 0, 0)
def aPig (a b : Nat) : PA := (10, a, b, 0)
def aFull : PA := (11, 0, 0, 0)
def aOrd (k a r : Nat) : PA := (12, k, a, r)
def aM1 : PA := (13, 0, 0, 0)
def aM2 : PA := (14, 0, 0, 0)
def aOB : PA := (15, 0, 0, 0)
def aOR (r : Nat) : PA := (16, r, 0, 0)
def aOT : PA := (17, 0, 0, 0)
def aOE : PA := (18, 0, 0, 0)
def aDeep : PA := (19, 0, 0, 0)
def aUp : PA := (20, 0, 0, 0)
/-- how many tokens a trace takes -/
def skN : List PA → Nat
  | [] => 0
  | a :: t => (if a.1 = 0 then 1 else 0) + skN t
theorem skN_app : ∀ s t, skN (s ++ t) = skN s + skN t
  | [], t => by simp [skN]
  | a :: s, t => by simp only [List.cons_append, skN, skN_app s t]; omega
def pOk (t : List PA) : PR := (true, t)
def pNo (t : List PA) : PR := (false, t)
def pSeq (i : Nat) (a : PR) (f : Nat → PR) : PR := if a.1 = true then ((f (i + skN a.2)).1, a.2 ++ (f (i + skN a.2)).2) else a
theorem pSeq_t {i : Nat} {a : PR} {f : Nat → PR} (h : a.1 = true) : pSeq i a f = ((f (i + skN a.2)).1, a.2 ++ (f (i + skN a.2)).2) := if_pos h
theorem pSeq_f {i : Nat} {a : PR} {f : Nat → PR} (h : a.1 = false) : pSeq i a f = a := if_neg (by rw [h]; decide)
theorem pSeq_ok {i : Nat} {t : List PA} {f : Nat → PR} : pSeq i (pOk t) f = ((f (i + skN t)).1, t ++ (f (i + skN t)).2) := rfl
theorem pSeq_no {i : Nat} {t : List PA} {f : Nat → PR} : pSeq i (pNo t) f = pNo t := rfl
def pTake (kd : Nat → Nat) (k i : Nat) : PR := if kd i = k then pOk [aSk] else pNo []
def pName (kd : Nat → Nat) (i : Nat) : PR := if kd i = 43 then pOk [aNam, aRole 4, aLook, aSk] else pNo [aNam, aRole 4]
def pInto (dp : Option (Nat → PR)) (i : Nat) (rest : Nat → PR) : PR := match dp with
  | none => pNo []
  | some f => pSeq i (pOk [aDeep, aSk]) (fun j => pSeq j (f j) rest)
def pLoop (kd : Nat → Nat) (k1 k2 : Nat) (part : Nat → PR) : Nat → Nat → PR
  | 0, _ => pOk []
  | m + 1, i => if kd i = k1 ∨ kd i = k2 then pSeq i (pSeq i (pOk [aSk]) (fun j => pSeq j (part j) (fun _ => pOk [aPut (kd i), aStep (kd i) 0 0]))) (pLoop kd k1 k2 part m) else pOk []
def pMany (kd : Nat → Nat) (k1 k2 : Nat) (part : Nat → PR) (i : Nat) : PR := pSeq i (part i) (fun j => pLoop kd k1 k2 part (401 - j) j)
def pPar (kd : Nat → Nat) (sumD : Option (Nat → PR)) (i : Nat) : PR := pInto sumD i (fun j => pSeq j (pOk [aUp]) (pTake kd 28))
def pFun1 (kd : Nat → Nat) (sumD : Option (Nat → PR)) (i : Nat) : PR := pSeq i (pOk [aSk]) (fun j => if kd j = 27 then pInto sumD j (fun l => pSeq l (pOk [aStep 15 0 0, aUp]) (fun m => pSeq m (pTake kd 28 m) (fun _ => pOk [aPut 15]))) else pNo [])
def pFun2 (kd : Nat → Nat) (sumD : Option (Nat → PR)) (i : Nat) : PR := pSeq i (pOk [aSk]) (fun j => if kd j = 27 then pInto sumD j (fun m => pSeq m (pTake kd 32 m) (fun o => pSeq o ((sumD.getD (fun _ => pNo [])) o) (fun q => pSeq q (pOk [aStep (kd i) 0 0, aUp, aPut (kd i)]) (pTake kd 28)))) else pNo [])
def pNamed (kd : Nat → Nat) (i : Nat) : PR := pSeq i (pOk [aPut (kd i), aSk]) (fun j => pSeq j (pTake kd 18 j) (fun l => pSeq l (pName kd l) (fun _ => pOk [aStep (kd i) l 0])))
def pValue (kd : Nat → Nat) (valD sumD : Option (Nat → PR)) (i : Nat) : PR :=
  if kd i = 44 then pOk [aPut 44, aNum, aStep 44 i i, aSk]
  else if kd i = 11 ∨ kd i = 12 ∨ kd i = 13 ∨ kd i = 14 then pOk [aPut (kd i), aStep (kd i) 0 0, aSk]
  else if kd i = 16 ∨ kd i = 17 then pNamed kd i
  else if kd i = 34 then pInto valD i (fun _ => pOk [aUp, aPut 42, aStep 42 0 0])
  else if kd i = 27 then pPar kd sumD i
  else if kd i = 15 then pFun1 kd sumD i
  else if kd i = 25 ∨ kd i = 26 then pFun2 kd sumD i
  else pNo []
def pLev (kd : Nat → Nat) : Nat → (Nat → PR) × (Nat → PR)
  | 0 => (pValue kd none none, pMany kd 33 34 (pMany kd 35 36 (pValue kd none none)))
  | e + 1 => (pValue kd (some (pLev kd e).1) (some (pLev kd e).2), pMany kd 33 34 (pMany kd 35 36 (pValue kd (some (pLev kd e).1) (some (pLev kd e).2))))
def pVal (kd : Nat → Nat) (e : Nat) : Nat → PR := (pLev kd e).1
def pSum (kd : Nat → Nat) (e : Nat) : Nat → PR := (pLev kd e).2
def pProd (kd : Nat → Nat) (e : Nat) : Nat → PR := pMany kd 35 36 (pVal kd e)
def pVD (kd : Nat → Nat) : Nat → Option (Nat → PR)
  | 0 => none
  | e + 1 => some (pVal kd e)
def pSD (kd : Nat → Nat) : Nat → Option (Nat → PR)
  | 0 => none
  | e + 1 => some (pSum kd e)
theorem pVal_eq (kd : Nat → Nat) : ∀ e, pVal kd e = pValue kd (pVD kd e) (pSD kd e)
  | 0 => rfl
  | _ + 1 => rfl
theorem pSum_eq (kd : Nat → Nat) : ∀ e, pSum kd e = pMany kd 33 34 (pProd kd e)
  | 0 => rfl
  | _ + 1 => rfl
def pCmp (kd : Nat → Nat) (sum : Nat → PR) (i : Nat) : PR := pSeq i (sum i) (fun j => if kd j = 37 ∨ kd j = 38 ∨ kd j = 39 ∨ kd j = 40 ∨ kd j = 41 then pSeq j (pOk [aSk]) (fun l => pSeq l (sum l) (fun _ => pOk [aPut (kd j), aStep (kd j) 0 0])) else pNo [])
def pPair (kd : Nat → Nat) (i : Nat) : PR := pSeq i (pOk [aPut (kd i), aSk]) (fun j => pSeq j (pName kd j) (fun l => pSeq l (pName kd l) (fun _ => pOk [aStep (kd i) j l])))
def pSingle (kd : Nat → Nat) (sngD tstD : Option (Nat → PR)) (sum : Nat → PR) (i : Nat) : PR :=
  if kd i = 22 then pInto sngD i (fun _ => pOk [aUp, aPut 22, aStep 22 0 0])
  else if kd i = 29 then pInto tstD i (fun j => pSeq j (pOk [aUp]) (pTake kd 30))
  else if kd i = 19 ∨ kd i = 21 then pPair kd i
  else if kd i = 20 then pSeq i (pOk [aSk]) (fun j => pSeq j (sum j) (fun _ => pOk [aPut 20, aStep 20 0 0]))
  else pCmp kd sum i
def pTev (kd : Nat → Nat) : Nat → (Nat → PR) × (Nat → PR)
  | 0 => (pSingle kd none none (pSum kd 0), pMany kd 24 24 (pMany kd 23 23 (pSingle kd none none (pSum kd 0))))
  | e + 1 => (pSingle kd (some (pTev kd e).1) (some (pTev kd e).2) (pSum kd (e + 1)), pMany kd 24 24 (pMany kd 23 23 (pSingle kd (some (pTev kd e).1) (some (pTev kd e).2) (pSum kd (e + 1)))))
def pSng (kd : Nat → Nat) (e : Nat) : Nat → PR := (pTev kd e).1
def pTst (kd : Nat → Nat) (e : Nat) : Nat → PR := (pTev kd e).2
def pBoth (kd : Nat → Nat) (e : Nat) : Nat → PR := pMany kd 23 23 (pSng kd e)
def pGD (kd : Nat → Nat) : Nat → Option (Nat → PR)
  | 0 => none
  | e + 1 => some (pSng kd e)
def pTD (kd : Nat → Nat) : Nat → Option (Nat → PR)
  | 0 => none
  | e + 1 => some (pTst kd e)
theorem pSng_eq (kd : Nat → Nat) : ∀ e, pSng kd e = pSingle kd (pGD kd e) (pTD kd e) (pSum kd e)
  | 0 => rfl
  | _ + 1 => rfl
theorem pTst_eq (kd : Nat → Nat) : ∀ e, pTst kd e = pMany kd 24 24 (pBoth kd e)
  | 0 => rfl
  | _ + 1 => rfl
def pAs (kd : Nat → Nat) (k r : Nat) (t : List PA) (i : Nat) : PR := if kd i = k then pOk (aRole r :: (t ++ [aSk])) else pNo [aRole r]
def pPig (kd : Nat → Nat) (i : Nat) : PR := pSeq i (pTake kd 1 i) (fun j => pSeq j (pAs kd 43 1 [aNew] j) (fun l => pSeq l (pTake kd 2 l) (fun m => pSeq m (pAs kd 44 6 [aRng 0] m) (fun o => pSeq o (pTake kd 3 o) (fun q => pSeq q (pAs kd 44 7 [aRng 1] q) (fun _ => pOk [aPig m q]))))))
def pSide (kd : Nat → Nat) (i : Nat) : PR := if kd i = 8 ∨ kd i = 9 then pOk [aSk] else pNo []
def pRt (kd : Nat → Nat) (i : Nat) : Nat := if kd i = 9 then 1 else 0
def pWhen (kd : Nat → Nat) (i : Nat) : PR := if kd i = 10 then pSeq i (pOk [aSk]) (pTst kd 8) else pOk []
def pMove (kd : Nat → Nat) (j : Nat) : PR := pSeq j (pAs kd 43 3 [aLook] j) (fun l => pSeq l (pOk [aOR (pRt kd l)]) (pSide kd))
def pOrd (kd : Nat → Nat) (i : Nat) : PR :=
  pSeq i (pOk [aFull, aRole 2, aSk, aOB, aM1]) (fun j => pSeq j (if kd i = 4 ∨ kd i = 5 then pMove kd j else pSum kd 8 j) (fun l => pSeq l (pOk [aM2, aOT]) (fun m => pSeq m (pWhen kd m) (fun _ => pOk [aOE, aOrd (kd i) j (if kd i = 4 ∨ kd i = 5 then pRt kd (j + 1) else pRt kd j)]))))
def pLine (kd : Nat → Nat) (i : Nat) : PR := if kd i = 4 ∨ kd i = 5 ∨ kd i = 6 ∨ kd i = 7 then pOrd kd i else pPig kd i
def pLines (kd : Nat → Nat) : Nat → Nat → PR
  | 0, _ => pOk []
  | m + 1, i => if kd i = 45 then pOk [] else pSeq i (pSeq i (pLine kd i) (pTake kd 31)) (pLines kd m)
def pRoofL (kd : Nat → Nat) : Nat → Nat → PR
  | 0, _ => pOk []
  | m + 1, i => if kd i = 44 then pSeq i (pOk [aRole 5, aRoof, aSk]) (pRoofL kd m) else pOk []
def pRoofs (kd : Nat → Nat) (i : Nat) : PR := pSeq i (pTake kd 0 i) (fun j => if kd j = 44 then pSeq j (pRoofL kd (401 - j) j) (pTake kd 31) else pNo [aRole 5])
def pBook (kd : Nat → Nat) : PR := pSeq 0 (pRoofs kd 0) (fun j => pLines kd (401 - j) j)
theorem pLoop_0 {kd : Nat → Nat} {k1 k2 m i : Nat} {part : Nat → PR} (h : ¬ (kd i = k1 ∨ kd i = k2)) : pLoop kd k1 k2 part (m + 1) i = pOk [] := if_neg h
theorem pLoop_f {kd : Nat → Nat} {k1 k2 m i : Nat} {part : Nat → PR} (h : kd i = k1 ∨ kd i = k2) (h1 : (part (i + 1)).1 = false) : pLoop kd k1 k2 part (m + 1) i = (false, aSk :: (part (i + 1)).2) := by
  rw [pLoop, if_pos h, pSeq_ok]
  have e : i + skN [aSk] = i + 1 := rfl
  rw [e, pSeq_f (a := part (i + 1)) h1]
  have e2 : (pSeq i ((part (i + 1)).1, [aSk] ++ (part (i + 1)).2) (pLoop kd k1 k2 part m)) = ((part (i + 1)).1, [aSk] ++ (part (i + 1)).2) := pSeq_f h1
  rw [e2, h1]
  rfl
theorem pLoop_t {kd : Nat → Nat} {k1 k2 m i : Nat} {part : Nat → PR} (h : kd i = k1 ∨ kd i = k2) (h1 : (part (i + 1)).1 = true) : pLoop kd k1 k2 part (m + 1) i = ((pLoop kd k1 k2 part m (i + 1 + skN (part (i + 1)).2)).1, aSk :: ((part (i + 1)).2 ++ aPut (kd i) :: aStep (kd i) 0 0 :: (pLoop kd k1 k2 part m (i + 1 + skN (part (i + 1)).2)).2)) := by
  have e : pLoop kd k1 k2 part (m + 1) i = pSeq i (pSeq i (pOk [aSk]) (fun j => pSeq j (part j) (fun _ => pOk [aPut (kd i), aStep (kd i) 0 0]))) (pLoop kd k1 k2 part m) := if_pos h
  rw [e, pSeq_ok]
  have e1 : i + skN [aSk] = i + 1 := rfl
  rw [e1, pSeq_t (a := part (i + 1)) h1]
  have e2 : skN ([aSk] ++ ((part (i + 1)).2 ++ [aPut (kd i), aStep (kd i) 0 0])) = 1 + skN (part (i + 1)).2 := by
    rw [skN_app, skN_app]
    rfl
  have e3 : (pSeq i ((pOk [aPut (kd i), aStep (kd i) 0 0]).1, [aSk] ++ ((part (i + 1)).2 ++ (pOk [aPut (kd i), aStep (kd i) 0 0]).2)) (pLoop kd k1 k2 part m)) = ((pLoop kd k1 k2 part m (i + skN ([aSk] ++ ((part (i + 1)).2 ++ [aPut (kd i), aStep (kd i) 0 0])))).1, ([aSk] ++ ((part (i + 1)).2 ++ [aPut (kd i), aStep (kd i) 0 0])) ++ (pLoop kd k1 k2 part m (i + skN ([aSk] ++ ((part (i + 1)).2 ++ [aPut (kd i), aStep (kd i) 0 0])))).2) := rfl
  refine e3.trans ?_
  rw [e2, ← Nat.add_assoc]
  simp
/-! ===== the tokens that are taken lie ahead of the last ===== -/
def pB (NT : Nat) (p : Nat → PR) : Prop := ∀ i, i ≤ NT → i + skN (p i).2 ≤ NT
theorem nt_lt {NT : Nat} {kd : Nat → Nat} (hE : kd NT = 45 ∨ kd NT = 46) {i k : Nat} (hi : i ≤ NT) (h : kd i = k) (hk : k ≠ 45 ∧ k ≠ 46) : i < NT := by
  rcases Nat.lt_or_eq_of_le hi with h1 | h1
  · exact h1
  · subst h1
    rcases hE with h2 | h2 <;> omega
theorem sk_seq {NT i : Nat} {a : PR} {f : Nat → PR} (ha : i + skN a.2 ≤ NT) (hf : ∀ j, j ≤ NT → j + skN (f j).2 ≤ NT) : i + skN (pSeq i a f).2 ≤ NT := by
  unfold pSeq
  by_cases h : a.1 = true
  · rw [if_pos h]
    show i + skN (a.2 ++ (f (i + skN a.2)).2) ≤ NT
    rw [skN_app, ← Nat.add_assoc]
    exact hf _ ha
  · rw [if_neg h]; exact ha
theorem sk_no {NT i : Nat} {t : List PA} (hi : i ≤ NT) (h : skN t = 0) : i + skN (pNo t).2 ≤ NT := by
  show i + skN t ≤ NT
  omega
theorem sk_ok {NT i : Nat} {t : List PA} (hi : i < NT) (h : skN t ≤ 1) : i + skN (pOk t).2 ≤ NT := by
  show i + skN t ≤ NT
  omega
theorem sk_ok0 {NT i : Nat} {t : List PA} (hi : i ≤ NT) (h : skN t = 0) : i + skN (pOk t).2 ≤ NT := by
  show i + skN t ≤ NT
  omega
theorem pB_take {NT : Nat} {kd : Nat → Nat} (hE : kd NT = 45 ∨ kd NT = 46) {k : Nat} (hk : k ≠ 45 ∧ k ≠ 46) : pB NT (pTake kd k) := by
  intro i hi
  unfold pTake
  by_cases h : kd i = k
  · rw [if_pos h]; exact sk_ok (nt_lt hE hi h hk) (by decide)
  · rw [if_neg h]; exact sk_no hi rfl
theorem pB_name {NT : Nat} {kd : Nat → Nat} (hE : kd NT = 45 ∨ kd NT = 46) : pB NT (pName kd) := by
  intro i hi
  unfold pName
  by_cases h : kd i = 43
  · rw [if_pos h]; exact sk_ok (nt_lt hE hi h (by decide)) (by decide)
  · rw [if_neg h]; exact sk_no hi rfl
def pBo (NT : Nat) (dp : Option (Nat → PR)) : Prop := ∀ f, dp = some f → pB NT f
theorem sk_into {NT i : Nat} {dp : Option (Nat → PR)} {rest : Nat → PR} (hi : i < NT) (hd : pBo NT dp) (hr : pB NT rest) : i + skN (pInto dp i rest).2 ≤ NT := by
  unfold pInto
  cases dp with
  | none => exact sk_no (by omega) rfl
  | some f => exact sk_seq (sk_ok hi (by decide)) (fun j hj => sk_seq (hd f rfl j hj) hr)
theorem pB_loop {NT : Nat} {kd : Nat → Nat} (hE : kd NT = 45 ∨ kd NT = 46) {k1 k2 : Nat} {part : Nat → PR} (hk : (k1 ≠ 45 ∧ k1 ≠ 46) ∧ k2 ≠ 45 ∧ k2 ≠ 46) (hp : pB NT part) : ∀ m, pB NT (pLoop kd k1 k2 part m)
  | 0 => fun i hi => sk_ok0 hi rfl
  | m + 1 => fun i hi => by
    rw [pLoop]
    by_cases h : kd i = k1 ∨ kd i = k2
    · rw [if_pos h]
      have hi' : i < NT := h.elim (fun z => nt_lt hE hi z hk.1) (fun z => nt_lt hE hi z hk.2)
      exact sk_seq (sk_seq (sk_ok hi' (by decide)) (fun j hj => sk_seq (hp j hj) (fun l hl => sk_ok0 hl rfl))) (pB_loop hE hk hp m)
    · rw [if_neg h]; exact sk_ok0 hi rfl
theorem pB_many {NT : Nat} {kd : Nat → Nat} (hE : kd NT = 45 ∨ kd NT = 46) {k1 k2 : Nat} {part : Nat → PR} (hk : (k1 ≠ 45 ∧ k1 ≠ 46) ∧ k2 ≠ 45 ∧ k2 ≠ 46) (hp : pB NT part) : pB NT (pMany kd k1 k2 part) := fun i hi => sk_seq (hp i hi) (fun j hj => pB_loop hE hk hp _ j hj)
theorem pB_value {NT : Nat} {kd : Nat → Nat} (hE : kd NT = 45 ∨ kd NT = 46) {vd sd : Option (Nat → PR)} (hv : pBo NT vd) (hs : pBo NT sd) : pB NT (pValue kd vd sd) := by
  intro i hi
  unfold pValue
  have T := fun k hk => pB_take (kd := kd) (k := k) hE hk
  split
  · next h => exact sk_ok (nt_lt hE hi h (by decide)) (Nat.le_refl _)
  · split
    · next h => exact sk_ok (by rcases h with h | h | h | h <;> exact nt_lt hE hi h (by decide)) (Nat.le_refl _)
    · split
      · next h => exact sk_seq (sk_ok (by rcases h with h | h <;> exact nt_lt hE hi h (by decide)) (Nat.le_refl _)) (fun j hj => sk_seq (T 18 (by decide) j hj) (fun l hl => sk_seq (pB_name hE l hl) (fun q hq => sk_ok0 hq rfl)))
      · split
        · next h => exact sk_into (nt_lt hE hi h (by decide)) hv (fun j hj => sk_ok0 hj rfl)
        · split
          · next h => exact sk_into (nt_lt hE hi h (by decide)) hs (fun j hj => sk_seq (sk_ok0 hj rfl) (T 28 (by decide)))
          · split
            · next h =>
              refine sk_seq (sk_ok (nt_lt hE hi h (by decide)) (by decide)) (fun j hj => ?_)
              split
              · next h2 => exact sk_into (nt_lt hE hj h2 (by decide)) hs (fun l hl => sk_seq (sk_ok0 hl rfl) (fun m hm => sk_seq (T 28 (by decide) m hm) (fun q hq => sk_ok0 hq rfl)))
              · exact sk_no hj rfl
            · split
              · next h =>
                refine sk_seq (sk_ok (by rcases h with h | h <;> exact nt_lt hE hi h (by decide)) (by decide)) (fun j hj => ?_)
                split
                · next h2 =>
                  cases sd with
                  | none => exact sk_no hj rfl
                  | some f => exact sk_into (nt_lt hE hj h2 (by decide)) hs (fun l hl => sk_seq (T 32 (by decide) l hl) (fun m hm => sk_seq (hs f rfl m hm) (fun q hq => sk_seq (sk_ok0 hq rfl) (T 28 (by decide)))))
                · exact sk_no hj rfl
              · exact sk_no hi rfl
theorem pB_lev {NT : Nat} {kd : Nat → Nat} (hE : kd NT = 45 ∨ kd NT = 46) : ∀ e, pB NT (pVal kd e) ∧ pB NT (pProd kd e) ∧ pB NT (pSum kd e)
  | 0 => by
    have h : pB NT (pVal kd 0) := pB_value hE (fun f z => by cases z) (fun f z => by cases z)
    have h2 := pB_many hE (k1 := 35) (k2 := 36) (by decide) h
    exact ⟨h, h2, pB_many hE (by decide) h2⟩
  | e + 1 => by
    have ih := pB_lev hE e
    have h : pB NT (pVal kd (e + 1)) := pB_value hE (fun f z => by rw [← Option.some.inj z]; exact ih.1) (fun f z => by rw [← Option.some.inj z]; exact ih.2.2)
    have h2 := pB_many hE (k1 := 35) (k2 := 36) (by decide) h
    exact ⟨h, h2, pB_many hE (by decide) h2⟩
theorem pB_single {NT : Nat} {kd : Nat → Nat} (hE : kd NT = 45 ∨ kd NT = 46) {gd td : Option (Nat → PR)} {sum : Nat → PR} (hg : pBo NT gd) (ht : pBo NT td) (hs : pB NT sum) : pB NT (pSingle kd gd td sum) := by
  intro i hi
  unfold pSingle
  have T := fun k hk => pB_take (kd := kd) (k := k) hE hk
  split
  · next h => exact sk_into (nt_lt hE hi h (by decide)) hg (fun j hj => sk_ok0 hj rfl)
  · split
    · next h => exact sk_into (nt_lt hE hi h (by decide)) ht (fun j hj => sk_seq (sk_ok0 hj rfl) (T 30 (by decide)))
    · split
      · next h => exact sk_seq (sk_ok (by rcases h with h | h <;> exact nt_lt hE hi h (by decide)) (Nat.le_refl _)) (fun j hj => sk_seq (pB_name hE j hj) (fun l hl => sk_seq (pB_name hE l hl) (fun q hq => sk_ok0 hq rfl)))
      · split
        · next h => exact sk_seq (sk_ok (nt_lt hE hi h (by decide)) (by decide)) (fun j hj => sk_seq (hs j hj) (fun q hq => sk_ok0 hq rfl))
        · refine sk_seq (hs i hi) (fun j hj => ?_)
          split
          · next h => exact sk_seq (sk_ok (by rcases h with h | h | h | h | h <;> exact nt_lt hE hj h (by decide)) (by decide)) (fun l hl => sk_seq (hs l hl) (fun q hq => sk_ok0 hq rfl))
          · exact sk_no hj rfl
theorem pB_tev {NT : Nat} {kd : Nat → Nat} (hE : kd NT = 45 ∨ kd NT = 46) : ∀ e, pB NT (pSng kd e) ∧ pB NT (pBoth kd e) ∧ pB NT (pTst kd e)
  | 0 => by
    have h : pB NT (pSng kd 0) := pB_single hE (fun f z => by cases z) (fun f z => by cases z) (pB_lev hE 0).2.2
    have h2 := pB_many hE (k1 := 23) (k2 := 23) (by decide) h
    exact ⟨h, h2, pB_many hE (by decide) h2⟩
  | e + 1 => by
    have ih := pB_tev hE e
    have h : pB NT (pSng kd (e + 1)) := pB_single hE (fun f z => by rw [← Option.some.inj z]; exact ih.1) (fun f z => by rw [← Option.some.inj z]; exact ih.2.2) (pB_lev hE (e + 1)).2.2
    have h2 := pB_many hE (k1 := 23) (k2 := 23) (by decide) h
    exact ⟨h, h2, pB_many hE (by decide) h2⟩
theorem pB_as {NT : Nat} {kd : Nat → Nat} (hE : kd NT = 45 ∨ kd NT = 46) {k r : Nat} {t : List PA} (hk : k ≠ 45 ∧ k ≠ 46) (ht : skN t = 0) : pB NT (pAs kd k r t) := by
  intro i hi
  unfold pAs
  by_cases h : kd i = k
  · rw [if_pos h]
    refine sk_ok (nt_lt hE hi h hk) ?_
    show 0 + skN (t ++ [aSk]) ≤ 1
    rw [skN_app, ht]
    decide
  · rw [if_neg h]; exact sk_no hi rfl
theorem pB_pig {NT : Nat} {kd : Nat → Nat} (hE : kd NT = 45 ∨ kd NT = 46) : pB NT (pPig kd) := by
  have T := fun k hk => pB_take (kd := kd) (k := k) hE hk
  exact fun i hi => sk_seq (T 1 (by decide) i hi) (fun j hj => sk_seq (pB_as hE (by decide) rfl j hj) (fun l hl => sk_seq (T 2 (by decide) l hl) (fun m hm => sk_seq (pB_as hE (by decide) rfl m hm) (fun o ho => sk_seq (T 3 (by decide) o ho) (fun q hq => sk_seq (pB_as hE (by decide) rfl q hq) (fun s hs => sk_ok0 hs rfl))))))
theorem pB_side {NT : Nat} {kd : Nat → Nat} (hE : kd NT = 45 ∨ kd NT = 46) : pB NT (pSide kd) := by
  intro i hi
  unfold pSide
  split
  · next h => exact sk_ok (by rcases h with h | h <;> exact nt_lt hE hi h (by decide)) (by decide)
  · exact sk_no hi rfl
theorem pB_when {NT : Nat} {kd : Nat → Nat} (hE : kd NT = 45 ∨ kd NT = 46) : pB NT (pWhen kd) := by
  intro i hi
  unfold pWhen
  split
  · next h => exact sk_seq (sk_ok (nt_lt hE hi h (by decide)) (by decide)) (pB_tev hE 8).2.2
  · exact sk_ok0 hi rfl
theorem pB_move {NT : Nat} {kd : Nat → Nat} (hE : kd NT = 45 ∨ kd NT = 46) : pB NT (pMove kd) := fun j hj => sk_seq (pB_as hE (by decide) rfl j hj) (fun l hl => sk_seq (sk_ok0 hl rfl) (pB_side hE))
theorem sk_ord {NT : Nat} {kd : Nat → Nat} (hE : kd NT = 45 ∨ kd NT = 46) {i : Nat} (hi : i < NT) : i + skN (pOrd kd i).2 ≤ NT := by
  refine sk_seq (sk_ok hi (by decide)) (fun j hj => sk_seq ?_ (fun l hl => sk_seq (sk_ok0 hl rfl) (fun m hm => sk_seq (pB_when hE m hm) (fun q hq => sk_ok0 hq rfl))))
  split
  · exact pB_move hE j hj
  · exact (pB_lev hE 8).2.2 j hj
theorem pB_line {NT : Nat} {kd : Nat → Nat} (hE : kd NT = 45 ∨ kd NT = 46) : pB NT (pLine kd) := by
  intro i hi
  unfold pLine
  split
  · next h => exact sk_ord hE (by rcases h with h | h | h | h <;> exact nt_lt hE hi h (by decide))
  · exact pB_pig hE i hi
theorem pB_lines {NT : Nat} {kd : Nat → Nat} (hE : kd NT = 45 ∨ kd NT = 46) : ∀ m, pB NT (pLines kd m)
  | 0 => fun i hi => sk_ok0 hi rfl
  | m + 1 => fun i hi => by
    rw [pLines]
    split
    · exact sk_ok0 hi rfl
    · exact sk_seq (sk_seq (pB_line hE i hi) (pB_take hE (by decide))) (pB_lines hE m)
theorem pB_roofL {NT : Nat} {kd : Nat → Nat} (hE : kd NT = 45 ∨ kd NT = 46) : ∀ m, pB NT (pRoofL kd m)
  | 0 => fun i hi => sk_ok0 hi rfl
  | m + 1 => fun i hi => by
    rw [pRoofL]
    split
    · next h => exact sk_seq (sk_ok (nt_lt hE hi h (by decide)) (by decide)) (pB_roofL hE m)
    · exact sk_ok0 hi rfl
theorem pB_roofs {NT : Nat} {kd : Nat → Nat} (hE : kd NT = 45 ∨ kd NT = 46) : pB NT (pRoofs kd) := fun i hi => sk_seq (pB_take hE (by decide) i hi) (fun j hj => by
  split
  · exact sk_seq (pB_roofL hE _ j hj) (pB_take hE (by decide))
  · exact sk_no hj rfl)
