/-! ===== both readers: sums and tests ===== -/
def SmP (c : Cx) (i : Nat) (r : PR) : Prop := r.1 = true → SmT c i r.2
def SmG (c : Cx) (p : Nat → PR) : Prop := ∀ i, SmP c i (p i)
def SmO (c : Cx) (dp : Option (Nat → PR)) : Prop := ∀ f, dp = some f → SmG c f
theorem Sm_seq {c : Cx} {i : Nat} {a : PR} {f : Nat → PR} (ha : SmP c i a) (hf : SmP c (i + skN a.2) (f (i + skN a.2))) : SmP c i (pSeq i a f) := by
  unfold pSeq
  by_cases h : a.1 = true
  · rw [if_pos h]
    exact fun h2 => SmT_app (ha h) (hf h2)
  · rw [if_neg h]
    exact fun z => absurd z h
theorem Sm_s {c : Cx} {i : Nat} {a : PR} {f : Nat → PR} (ha : SmP c i a) (hf : SmG c f) : SmP c i (pSeq i a f) := Sm_seq ha (hf _)
theorem Sm_no {c : Cx} {i : Nat} {t : List PA} : SmP c i (pNo t) := fun h => absurd h Bool.false_ne_true
theorem Sm_qt {c : Cx} {i : Nat} {t : List PA} (h : qt t = true) : SmP c i (pOk t) := fun _ => Sm_q t i h
def nk (k : Nat) : Prop := ¬ k = 44 ∧ ¬ k = 16 ∧ ¬ k = 17 ∧ ¬ k = 19 ∧ ¬ k = 21
theorem Sm_a {c : Cx} {i k : Nat} {s t : List PA} (hs : qt s = true) (ht : qt t = true) (hk : nk k) : SmP c i (pOk (s ++ (aStep k 0 0 :: t))) := fun _ => SmT_app (Sm_q s i hs) (SmT_app (s := [aStep k 0 0]) (Sm_st hk) (Sm_q t _ ht))
theorem S_take {c : Cx} {k : Nat} : SmG c (pTake (xkd c) k) := by
  intro i
  unfold pTake
  split
  · exact Sm_qt rfl
  · exact Sm_no
theorem S_into {c : Cx} {dp : Option (Nat → PR)} {rest : Nat → PR} {i : Nat} (hd : SmO c dp) (hr : SmG c rest) : SmP c i (pInto dp i rest) := by
  unfold pInto
  cases dp with
  | none => exact Sm_no
  | some f => exact Sm_s (Sm_qt rfl) (fun i => Sm_s (hd f rfl i) hr)
theorem S_loop {c : Cx} {k1 k2 : Nat} {part : Nat → PR} (h1 : nk k1) (h2 : nk k2) (hp : SmG c part) : ∀ m, SmG c (pLoop (xkd c) k1 k2 part m)
  | 0 => fun i => Sm_qt rfl
  | m + 1 => fun i => by
    rw [pLoop]
    split
    · next h =>
      have hk : nk (xkd c i) := h.elim (fun z => z.symm ▸ h1) (fun z => z.symm ▸ h2)
      exact Sm_s (Sm_s (Sm_qt rfl) (fun i => Sm_s (hp i) (fun i => Sm_a (s := [aPut _]) (t := []) rfl rfl hk))) (S_loop h1 h2 hp m)
    · exact Sm_qt rfl
theorem S_many {c : Cx} {k1 k2 : Nat} {part : Nat → PR} (h1 : nk k1) (h2 : nk k2) (hp : SmG c part) : SmG c (pMany (xkd c) k1 k2 part) := fun i => Sm_s (hp i) (fun i => S_loop h1 h2 hp _ i)
theorem S_fun1 {c : Cx} {sd : Option (Nat → PR)} (hs : SmO c sd) : SmG c (pFun1 (xkd c) sd) := by
  intro i
  refine Sm_s (Sm_qt rfl) (fun i => ?_)
  split
  · exact S_into hs (fun i => Sm_s (Sm_a (s := []) (t := [aUp]) rfl rfl (by unfold nk; decide)) (fun i => Sm_s (S_take i) (fun i => Sm_qt rfl)))
  · exact Sm_no
theorem S_fun2 {c : Cx} {sd : Option (Nat → PR)} {i : Nat} (hk : nk (xkd c i)) (hs : SmO c sd) : SmP c i (pFun2 (xkd c) sd i) := by
  refine Sm_s (Sm_qt rfl) (fun j => ?_)
  split
  · have hg : SmG c (sd.getD (fun _ => pNo [])) := by
      cases sd with
      | none => exact fun i => Sm_no
      | some f => exact hs f rfl
    exact S_into hs (fun i => Sm_s (S_take i) (fun i => Sm_s (hg i) (fun i => Sm_s (Sm_a (s := []) (t := [aUp, aPut _]) rfl rfl hk) S_take)))
  · exact Sm_no
theorem S_named {c : Cx} {i : Nat} (hc : xok c) (hk : xkd c i = 16 ∨ xkd c i = 17) : SmP c i (pNamed (xkd c) i) := by
  refine Sm_s (Sm_qt rfl) (fun j => Sm_s (S_take j) (fun l => ?_))
  show SmP c l (pSeq l (pName (xkd c) l) (fun _ => pOk [aStep (xkd c i) l 0]))
  unfold pName
  by_cases h : xkd c l = 43
  · rw [if_pos h]
    exact fun _ => Sm_nm1 hc hk h
  · rw [if_neg h]
    exact Sm_no
theorem S_pair {c : Cx} {i : Nat} (hc : xok c) (hk : xkd c i = 19 ∨ xkd c i = 21) : SmP c i (pPair (xkd c) i) := by
  refine Sm_s (Sm_qt rfl) (fun l => ?_)
  show SmP c l (pSeq l (pName (xkd c) l) (fun m => pSeq m (pName (xkd c) m) (fun _ => pOk [aStep (xkd c i) l m])))
  by_cases h : xkd c l = 43
  · have e : pName (xkd c) l = pOk [aNam, aRole 4, aLook, aSk] := if_pos h
    rw [e]
    show SmP c l (pSeq l (pOk [aNam, aRole 4, aLook, aSk]) _)
    rw [pSeq_ok]
    by_cases h2 : xkd c (l + 1) = 43
    · have e2 : pName (xkd c) (l + skN [aNam, aRole 4, aLook, aSk]) = pOk [aNam, aRole 4, aLook, aSk] := if_pos h2
      rw [e2]
      exact fun _ => Sm_nm2 hc hk h h2
    · have e2 : pName (xkd c) (l + skN [aNam, aRole 4, aLook, aSk]) = pNo [aNam, aRole 4] := if_neg h2
      rw [e2]
      exact fun z => absurd z Bool.false_ne_true
  · have e : pName (xkd c) l = pNo [aNam, aRole 4] := if_neg h
    rw [e]
    exact Sm_no
theorem S_value {c : Cx} (hc : xok c) {vd sd : Option (Nat → PR)} (hv : SmO c vd) (hs : SmO c sd) : SmG c (pValue (xkd c) vd sd) := by
  intro i
  unfold pValue
  split
  · next h => exact fun _ => Sm_nu hc h
  · split
    · next h => exact Sm_a (s := [aPut _]) (t := [aSk]) rfl rfl (by unfold nk; omega)
    · split
      · next h => exact S_named hc h
      · split
        · exact S_into hv (fun i => Sm_a (s := [aUp, aPut 42]) (t := []) rfl rfl (by unfold nk; decide))
        · split
          · exact S_into hs (fun i => Sm_s (Sm_qt rfl) S_take)
          · split
            · exact S_fun1 hs i
            · split
              · next h => exact S_fun2 (by unfold nk; omega) hs
              · exact Sm_no
theorem So0 {c : Cx} : SmO c none := fun _ h => nomatch h
theorem So1 {c : Cx} {f : Nat → PR} (h : SmG c f) : SmO c (some f) := fun g hg => by cases hg; exact h
theorem S_lev {c : Cx} (hc : xok c) : ∀ e, SmG c (pLev (xkd c) e).1 ∧ SmG c (pLev (xkd c) e).2
  | 0 => ⟨S_value hc So0 So0, S_many (by unfold nk; decide) (by unfold nk; decide) (S_many (by unfold nk; decide) (by unfold nk; decide) (S_value hc So0 So0))⟩
  | e + 1 => by
    obtain ⟨h1, h2⟩ := S_lev hc e
    exact ⟨S_value hc (So1 h1) (So1 h2), S_many (by unfold nk; decide) (by unfold nk; decide) (S_many (by unfold nk; decide) (by unfold nk; decide) (S_value hc (So1 h1) (So1 h2)))⟩
theorem S_cmp {c : Cx} {sum : Nat → PR} (hs : SmG c sum) : SmG c (pCmp (xkd c) sum) := by
  intro i
  refine Sm_s (hs i) (fun j => ?_)
  split
  · next h => exact Sm_s (Sm_qt rfl) (fun i => Sm_s (hs i) (fun i => Sm_a (s := [aPut _]) (t := []) rfl rfl (by unfold nk; omega)))
  · exact Sm_no
theorem S_single {c : Cx} (hc : xok c) {gd td : Option (Nat → PR)} {sum : Nat → PR} (hg : SmO c gd) (ht : SmO c td) (hs : SmG c sum) : SmG c (pSingle (xkd c) gd td sum) := by
  intro i
  unfold pSingle
  split
  · exact S_into hg (fun i => Sm_a (s := [aUp, aPut 22]) (t := []) rfl rfl (by unfold nk; decide))
  · split
    · exact S_into ht (fun i => Sm_s (Sm_qt rfl) S_take)
    · split
      · next h => exact S_pair hc h
      · split
        · exact Sm_s (Sm_qt rfl) (fun i => Sm_s (hs i) (fun i => Sm_a (s := [aPut 20]) (t := []) rfl rfl (by unfold nk; decide)))
        · exact S_cmp hs i
theorem S_tev {c : Cx} (hc : xok c) : ∀ e, SmG c (pTev (xkd c) e).1 ∧ SmG c (pTev (xkd c) e).2
  | 0 => ⟨S_single hc So0 So0 (S_lev hc 0).2, S_many (by unfold nk; decide) (by unfold nk; decide) (S_many (by unfold nk; decide) (by unfold nk; decide) (S_single hc So0 So0 (S_lev hc 0).2))⟩
  | e + 1 => by
    obtain ⟨h1, h2⟩ := S_tev hc e
    exact ⟨S_single hc (So1 h1) (So1 h2) (S_lev hc _).2, S_many (by unfold nk; decide) (by unfold nk; decide) (S_many (by unfold nk; decide) (by unfold nk; decide) (S_single hc (So1 h1) (So1 h2) (S_lev hc _).2))⟩
theorem S_when {c : Cx} (hc : xok c) : SmG c (pWhen (xkd c)) := by
  intro i
  unfold pWhen
  split
  · exact Sm_s (Sm_qt rfl) (S_tev hc 8).2
  · exact Sm_qt rfl
theorem S_sum {c : Cx} (hc : xok c) (e : Nat) : SmG c (pSum (xkd c) e) := (S_lev hc e).2
