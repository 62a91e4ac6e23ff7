/-! ===== words and types of sums and tests ===== -/
def wdT : Nat → List PA → List (Nat × Nat)
  | _, [] => []
  | i, a :: t => if a.1 = 2 then (0, a.2.1) :: wdT i t else if a.1 = 3 then (1, i) :: wdT i t else if a.1 = 4 then (2, i) :: wdT i t else if a.1 = 0 then wdT (i + 1) t else wdT i t
theorem wdT_app : ∀ (s t : List PA) (i : Nat), wdT i (s ++ t) = wdT i s ++ wdT (i + skN s) t
  | [], t, i => rfl
  | a :: s, t, i => by
    rw [List.cons_append, wdT, wdT, skN, wdT_app s t, wdT_app s t]
    by_cases h2 : a.1 = 2
    · rw [if_pos h2, if_pos h2, if_neg (show ¬ a.1 = 0 by omega), Nat.zero_add]
      rfl
    · rw [if_neg h2, if_neg h2]
      by_cases h3 : a.1 = 3
      · rw [if_pos h3, if_pos h3, if_neg (show ¬ a.1 = 0 by omega), Nat.zero_add]
        rfl
      · rw [if_neg h3, if_neg h3]
        by_cases h4 : a.1 = 4
        · rw [if_pos h4, if_pos h4, if_neg (show ¬ a.1 = 0 by omega), Nat.zero_add]
          rfl
        · rw [if_neg h4, if_neg h4]
          by_cases h0 : a.1 = 0
          · rw [if_pos h0, if_pos h0, if_pos h0, Nat.add_assoc]
          · rw [if_neg h0, if_neg h0, if_neg h0, Nat.zero_add]
def encS (x : Nat × Nat × Nat) : List (Nat × Nat) := if x.1 = 44 then [(0, x.1), (1, x.2.1)] else if x.1 = 16 ∨ x.1 = 17 then [(0, x.1), (2, x.2.1)] else if x.1 = 19 ∨ x.1 = 21 then [(0, x.1), (2, x.2.1), (2, x.2.2)] else [(0, x.1)]
def encA (l : List (Nat × Nat × Nat)) : List (Nat × Nat) := l.flatMap encS
theorem encA_app (s t : List (Nat × Nat × Nat)) : encA (s ++ t) = encA s ++ encA t := List.flatMap_append
def tyK (k : Nat) (ts ts' : List Bool) : Prop :=
  ((k = 44 ∨ k = 11 ∨ k = 12 ∨ k = 13 ∨ k = 14 ∨ k = 16 ∨ k = 17) ∧ ts' = false :: ts) ∨ ((k = 19 ∨ k = 21) ∧ ts' = true :: ts) ∨
  ((k = 42 ∨ k = 15) ∧ ∃ r, ts = false :: r ∧ ts' = false :: r) ∨ (k = 22 ∧ ∃ r, ts = true :: r ∧ ts' = true :: r) ∨ (k = 20 ∧ ∃ r, ts = false :: r ∧ ts' = true :: r) ∨
  ((k = 25 ∨ k = 26 ∨ k = 33 ∨ k = 34 ∨ k = 35 ∨ k = 36) ∧ ∃ r, ts = false :: false :: r ∧ ts' = false :: r) ∨ ((k = 37 ∨ k = 38 ∨ k = 39 ∨ k = 40 ∨ k = 41) ∧ ∃ r, ts = false :: false :: r ∧ ts' = true :: r) ∨ ((k = 23 ∨ k = 24) ∧ ∃ r, ts = true :: true :: r ∧ ts' = true :: r)
def tyS : List (Nat × Nat × Nat) → List Bool → List Bool → Prop
  | [], ts, ts' => ts = ts'
  | x :: l, ts, ts' => ∃ t1, tyK x.1 ts t1 ∧ tyS l t1 ts'
theorem tyS_app : ∀ (s t : List (Nat × Nat × Nat)) (a b e : List Bool), tyS s a b → tyS t b e → tyS (s ++ t) a e
  | [], t, a, b, e, h1, h2 => by
    have h1 : a = b := h1
    rw [h1]
    exact h2
  | x :: s, t, a, b, e, ⟨t1, h1, h3⟩, h2 => ⟨t1, h1, tyS_app s t _ _ _ h3 h2⟩
def WTy (i : Nat) (a b : List Bool) (r : PR) : Prop := r.1 = true → wdT i r.2 = encA (stT r.2) ∧ ∀ ts, tyS (stT r.2) (a ++ ts) (b ++ ts)
def WG (a b : List Bool) (p : Nat → PR) : Prop := ∀ i, WTy i a b (p i)
def WO (a b : List Bool) (dp : Option (Nat → PR)) : Prop := ∀ f, dp = some f → WG a b f
theorem W_seq {i : Nat} {x y z : List Bool} {a : PR} {f : Nat → PR} (ha : WTy i x y a) (hf : WTy (i + skN a.2) y z (f (i + skN a.2))) : WTy i x z (pSeq i a f) := by
  unfold pSeq
  by_cases h : a.1 = true
  · rw [if_pos h]
    intro h2
    obtain ⟨a1, a2⟩ := ha h
    obtain ⟨b1, b2⟩ := hf h2
    refine ⟨?_, fun ts => ?_⟩
    · show wdT i (a.2 ++ _) = encA (stT (a.2 ++ _))
      rw [wdT_app, stT_app, encA_app, a1, b1]
    · show tyS (stT (a.2 ++ _)) _ _
      rw [stT_app]
      exact tyS_app _ _ _ _ _ (a2 ts) (b2 ts)
  · rw [if_neg h]
    exact fun z => absurd z h
theorem W_s {i : Nat} {x y z : List Bool} {a : PR} {f : Nat → PR} (ha : WTy i x y a) (hf : WG y z f) : WTy i x z (pSeq i a f) := W_seq ha (hf _)
theorem W_no {i : Nat} {x y : List Bool} {t : List PA} : WTy i x y (pNo t) := fun h => absurd h Bool.false_ne_true
theorem W_fr {i : Nat} {x y z : List Bool} {r : PR} (h : WTy i x y r) : WTy i (x ++ z) (y ++ z) r := fun h2 => by
  obtain ⟨h3, h4⟩ := h h2
  refine ⟨h3, fun ts => ?_⟩
  rw [List.append_assoc, List.append_assoc]
  exact h4 _
theorem W_qt {i : Nat} {x : List Bool} {t : List PA} (h : wdT i t = []) (h2 : stT t = []) : WTy i x x (pOk t) := fun _ => by
  show wdT i t = encA (stT t) ∧ ∀ ts, tyS (stT t) _ _
  rw [h, h2]
  exact ⟨rfl, fun ts => rfl⟩
theorem W_a {i k : Nat} {x y : List Bool} {t : List PA} (hk : ∀ ts, tyK k (x ++ ts) (y ++ ts)) (h2 : stT t = [(k, 0, 0)]) (h : wdT i t = [(0, k)]) (hn : ¬ k = 44 ∧ ¬ k = 16 ∧ ¬ k = 17 ∧ ¬ k = 19 ∧ ¬ k = 21) : WTy i x y (pOk t) := fun _ => by
  show wdT i t = encA (stT t) ∧ ∀ ts, tyS (stT t) _ _
  rw [h, h2]
  refine ⟨?_, fun ts => ⟨_, hk ts, rfl⟩⟩
  show _ = encS (k, 0, 0) ++ []
  unfold encS
  rw [if_neg hn.1, if_neg (by show ¬ (k = 16 ∨ k = 17); omega), if_neg (by show ¬ (k = 19 ∨ k = 21); omega)]
  rfl
theorem W_take {kd : Nat → Nat} {k : Nat} {x : List Bool} : WG x x (pTake kd k) := by
  intro i
  unfold pTake
  split
  · exact W_qt rfl rfl
  · exact W_no
theorem W_into {dp : Option (Nat → PR)} {rest : Nat → PR} {i : Nat} {x y : List Bool} (hd : WO [] x dp) (hr : WG x y rest) : WTy i [] y (pInto dp i rest) := by
  unfold pInto
  cases dp with
  | none => exact W_no
  | some f => exact W_s (W_qt rfl rfl) (fun i => W_s (hd f rfl i) hr)
theorem W_loop {kd : Nat → Nat} {k1 k2 : Nat} {x : Bool} {part : Nat → PR} (h1 : ∀ k, k = k1 ∨ k = k2 → (∀ ts, tyK k (x :: x :: ts) (x :: ts)) ∧ ¬ k = 44 ∧ ¬ k = 16 ∧ ¬ k = 17 ∧ ¬ k = 19 ∧ ¬ k = 21) (hp : WG [] [x] part) : ∀ m, WG [x] [x] (pLoop kd k1 k2 part m)
  | 0 => fun i => W_qt rfl rfl
  | m + 1 => fun i => by
    rw [pLoop]
    split
    · next h =>
      exact W_s (W_s (W_qt rfl rfl) (fun j => W_s (y := [x, x]) (W_fr (z := [x]) (hp j)) (fun l => W_a (h1 _ h).1 rfl rfl (h1 _ h).2))) (W_loop h1 hp m)
    · exact W_qt rfl rfl
theorem W_many {kd : Nat → Nat} {k1 k2 : Nat} {x : Bool} {part : Nat → PR} (h1 : ∀ k, k = k1 ∨ k = k2 → (∀ ts, tyK k (x :: x :: ts) (x :: ts)) ∧ ¬ k = 44 ∧ ¬ k = 16 ∧ ¬ k = 17 ∧ ¬ k = 19 ∧ ¬ k = 21) (hp : WG [] [x] part) : WG [] [x] (pMany kd k1 k2 part) := fun i => W_s (hp i) (fun j => W_loop h1 hp _ j)
theorem ty_2 {k : Nat} (h : k = 25 ∨ k = 26 ∨ k = 33 ∨ k = 34 ∨ k = 35 ∨ k = 36) : (∀ ts, tyK k (false :: false :: ts) (false :: ts)) ∧ (¬ k = 44 ∧ ¬ k = 16 ∧ ¬ k = 17 ∧ ¬ k = 19 ∧ ¬ k = 21) := ⟨fun ts => .inr (.inr (.inr (.inr (.inr (.inl ⟨h, ts, rfl, rfl⟩))))), by omega⟩
theorem ty_3 {k : Nat} (h : k = 23 ∨ k = 24) : (∀ ts, tyK k (true :: true :: ts) (true :: ts)) ∧ (¬ k = 44 ∧ ¬ k = 16 ∧ ¬ k = 17 ∧ ¬ k = 19 ∧ ¬ k = 21) := ⟨fun ts => .inr (.inr (.inr (.inr (.inr (.inr (.inr ⟨h, ts, rfl, rfl⟩)))))), by omega⟩
theorem ty_4 {k : Nat} (h : k = 37 ∨ k = 38 ∨ k = 39 ∨ k = 40 ∨ k = 41) : (∀ ts, tyK k (false :: false :: ts) (true :: ts)) ∧ (¬ k = 44 ∧ ¬ k = 16 ∧ ¬ k = 17 ∧ ¬ k = 19 ∧ ¬ k = 21) := ⟨fun ts => .inr (.inr (.inr (.inr (.inr (.inr (.inl ⟨h, ts, rfl, rfl⟩)))))), by omega⟩
theorem ty_1 {k : Nat} (h : k = 42 ∨ k = 15) : (∀ ts, tyK k (false :: ts) (false :: ts)) ∧ (¬ k = 44 ∧ ¬ k = 16 ∧ ¬ k = 17 ∧ ¬ k = 19 ∧ ¬ k = 21) := ⟨fun ts => .inr (.inr (.inl ⟨h, ts, rfl, rfl⟩)), by omega⟩
theorem ty_0 {k : Nat} (h : k = 11 ∨ k = 12 ∨ k = 13 ∨ k = 14) : (∀ ts, tyK k ts (false :: ts)) ∧ (¬ k = 44 ∧ ¬ k = 16 ∧ ¬ k = 17 ∧ ¬ k = 19 ∧ ¬ k = 21) := ⟨fun ts => .inl ⟨by omega, rfl⟩, by omega⟩
theorem ty_n : (∀ ts, tyK 22 (true :: ts) (true :: ts)) := fun ts => .inr (.inr (.inr (.inl ⟨rfl, ts, rfl, rfl⟩)))
theorem ty_d : (∀ ts, tyK 20 (false :: ts) (true :: ts)) := fun ts => .inr (.inr (.inr (.inr (.inl ⟨rfl, ts, rfl, rfl⟩))))
theorem W_fun1 {kd : Nat → Nat} {sd : Option (Nat → PR)} (hs : WO [] [false] sd) : WG [] [false] (pFun1 kd sd) := by
  intro i
  refine W_s (W_qt rfl rfl) (fun i => ?_)
  split
  · refine W_into (x := [false]) hs (fun j => ?_)
    show WTy j [false] [false] (pSeq j (pOk [aStep 15 0 0, aUp]) (fun m => pSeq m (pTake kd 28 m) (fun _ => pOk [aPut 15])))
    rw [pSeq_ok]
    unfold pTake
    by_cases h : kd (j + skN [aStep 15 0 0, aUp]) = 28
    · rw [if_pos h, pSeq_ok]
      exact W_a (ty_1 (.inr rfl)).1 rfl rfl (ty_1 (.inr rfl)).2
    · rw [if_neg h]
      exact fun z => absurd z Bool.false_ne_true
  · exact W_no
theorem W_fun2 {kd : Nat → Nat} {sd : Option (Nat → PR)} {i : Nat} (hk : kd i = 25 ∨ kd i = 26) (hs : WO [] [false] sd) : WTy i [] [false] (pFun2 kd sd i) := by
  refine W_s (W_qt rfl rfl) (fun j => ?_)
  split
  · have hg : WG [] [false] (sd.getD (fun _ => pNo [])) := by
      cases sd with
      | none => exact fun i => W_no
      | some f => exact hs f rfl
    refine W_into (x := [false]) hs (fun l => W_s (W_take l) (fun o => W_s (y := [false, false]) (W_fr (z := [false]) (hg o)) (fun q => ?_)))
    have hk' := ty_2 (k := kd i) (by omega)
    exact W_s (y := [false]) (W_a hk'.1 rfl rfl hk'.2) W_take
  · exact W_no
theorem W_named {kd : Nat → Nat} {i : Nat} (hk : kd i = 16 ∨ kd i = 17) : WTy i [] [false] (pNamed kd i) := by
  show WTy i [] [false] (pSeq i (pOk [aPut (kd i), aSk]) (fun j => pSeq j (pTake kd 18 j) (fun l => pSeq l (pName kd l) (fun _ => pOk [aStep (kd i) l 0]))))
  rw [pSeq_ok]
  unfold pTake
  by_cases h : kd (i + skN [aPut (kd i), aSk]) = 18
  · rw [if_pos h, pSeq_ok]
    unfold pName
    by_cases h2 : kd (i + skN [aPut (kd i), aSk] + skN [aSk]) = 43
    · rw [if_pos h2, pSeq_ok]
      refine fun _ => ⟨?_, fun ts => ⟨_, .inl ⟨by show kd i = 44 ∨ kd i = 11 ∨ kd i = 12 ∨ kd i = 13 ∨ kd i = 14 ∨ kd i = 16 ∨ kd i = 17; omega, rfl⟩, rfl⟩⟩
      show _ = encS (kd i, _, 0) ++ []
      unfold encS
      rw [if_neg (by show ¬ kd i = 44; omega), if_pos (by exact hk)]
      rfl
    · rw [if_neg h2]
      exact fun z => absurd z Bool.false_ne_true
  · rw [if_neg h]
    exact fun z => absurd z Bool.false_ne_true
theorem W_pair {kd : Nat → Nat} {i : Nat} (hk : kd i = 19 ∨ kd i = 21) : WTy i [] [true] (pPair kd i) := by
  show WTy i [] [true] (pSeq i (pOk [aPut (kd i), aSk]) (fun j => pSeq j (pName kd j) (fun l => pSeq l (pName kd l) (fun _ => pOk [aStep (kd i) j l]))))
  rw [pSeq_ok]
  unfold pName
  by_cases h : kd (i + skN [aPut (kd i), aSk]) = 43
  · rw [if_pos h, pSeq_ok]
    by_cases h2 : kd (i + skN [aPut (kd i), aSk] + skN [aNam, aRole 4, aLook, aSk]) = 43
    · rw [if_pos h2, pSeq_ok]
      refine fun _ => ⟨?_, fun ts => ⟨_, .inr (.inl ⟨by exact hk, rfl⟩), rfl⟩⟩
      show _ = encS (kd i, _, _) ++ []
      unfold encS
      rw [if_neg (by show ¬ kd i = 44; omega), if_neg (by show ¬ (kd i = 16 ∨ kd i = 17); omega), if_pos (by exact hk)]
      rfl
    · rw [if_neg h2]
      exact fun z => absurd z Bool.false_ne_true
  · rw [if_neg h]
    exact fun z => absurd z Bool.false_ne_true
theorem W_value {kd : Nat → Nat} {vd sd : Option (Nat → PR)} (hv : WO [] [false] vd) (hs : WO [] [false] sd) : WG [] [false] (pValue kd vd sd) := by
  intro i
  unfold pValue
  split
  · next h => exact fun _ => ⟨rfl, fun ts => ⟨_, .inl ⟨.inl rfl, rfl⟩, rfl⟩⟩
  · split
    · next h => exact W_a (ty_0 h).1 rfl rfl (ty_0 h).2
    · split
      · next h => exact W_named h
      · split
        · exact W_into hv (fun i => W_a (ty_1 (.inl rfl)).1 rfl rfl (ty_1 (.inl rfl)).2)
        · split
          · exact W_into hs (fun i => W_s (W_qt rfl rfl) W_take)
          · split
            · exact W_fun1 hs i
            · split
              · next h => exact W_fun2 h hs
              · exact W_no
theorem Wo0 {x y : List Bool} : WO x y none := fun _ h => nomatch h
theorem Wo1 {x y : List Bool} {f : Nat → PR} (h : WG x y f) : WO x y (some f) := fun g hg => by cases hg; exact h
theorem W_ms {kd : Nat → Nat} {v : Nat → PR} (h : WG [] [false] v) : WG [] [false] (pMany kd 33 34 (pMany kd 35 36 v)) := W_many (fun k hk => ty_2 (by omega)) (W_many (fun k hk => ty_2 (by omega)) h)
theorem W_mt {kd : Nat → Nat} {v : Nat → PR} (h : WG [] [true] v) : WG [] [true] (pMany kd 24 24 (pMany kd 23 23 v)) := W_many (fun k hk => ty_3 (by omega)) (W_many (fun k hk => ty_3 (by omega)) h)
theorem W_lev (kd : Nat → Nat) : ∀ e, WG [] [false] (pLev kd e).1 ∧ WG [] [false] (pLev kd e).2
  | 0 => ⟨W_value Wo0 Wo0, W_ms (W_value Wo0 Wo0)⟩
  | e + 1 => by
    obtain ⟨h1, h2⟩ := W_lev kd e
    exact ⟨W_value (Wo1 h1) (Wo1 h2), W_ms (W_value (Wo1 h1) (Wo1 h2))⟩
theorem W_cmp {kd : Nat → Nat} {sum : Nat → PR} (hs : WG [] [false] sum) : WG [] [true] (pCmp kd sum) := by
  intro i
  refine W_s (y := [false]) (hs i) (fun j => ?_)
  split
  · next h => exact W_s (y := [false]) (W_qt rfl rfl) (fun l => W_s (y := [false, false]) (W_fr (z := [false]) (hs l)) (fun i => W_a (ty_4 h).1 rfl rfl (ty_4 h).2))
  · exact W_no
theorem W_single {kd : Nat → Nat} {gd td : Option (Nat → PR)} {sum : Nat → PR} (hg : WO [] [true] gd) (ht : WO [] [true] td) (hs : WG [] [false] sum) : WG [] [true] (pSingle kd gd td sum) := by
  intro i
  unfold pSingle
  split
  · exact W_into hg (fun i => W_a ty_n rfl rfl (by decide))
  · split
    · exact W_into ht (fun i => W_s (W_qt rfl rfl) W_take)
    · split
      · next h => exact W_pair h
      · split
        · exact W_s (W_qt rfl rfl) (fun i => W_s (hs i) (fun i => W_a ty_d rfl rfl (by decide)))
        · exact W_cmp hs i
theorem W_tev (kd : Nat → Nat) : ∀ e, WG [] [true] (pTev kd e).1 ∧ WG [] [true] (pTev kd e).2
  | 0 => ⟨W_single Wo0 Wo0 (W_lev kd 0).2, W_mt (W_single Wo0 Wo0 (W_lev kd 0).2)⟩
  | e + 1 => by
    obtain ⟨h1, h2⟩ := W_tev kd e
    exact ⟨W_single (Wo1 h1) (Wo1 h2) (W_lev kd _).2, W_mt (W_single (Wo1 h1) (Wo1 h2) (W_lev kd _).2)⟩
