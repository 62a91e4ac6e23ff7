/-! ===== what the steps come to, as a function; that they fit ===== -/
def evT (hs : Nat → Int32) (n P : Nat) (pl : Nat → Nat) (ls : Nat → Int32) (dy : Int32) (k a b : Nat) (l : List Int32) : List Int32 :=
  if mxtakes.getD k 0 = 2 then (match l with
    | y :: x :: r => f2 k x y :: r
    | _ => [])
  else if mxtakes.getD k 0 = 1 then (match l with
    | x :: r => f1 hs n k x :: r
    | _ => [])
  else f0 hs n P pl ls dy k a b :: l
def evL (hs : Nat → Int32) (n P : Nat) (pl : Nat → Nat) (ls : Nat → Int32) (dy : Int32) (K A B : Nat → Nat) : Nat → Nat → List Int32 → List Int32
  | 0, _, l => l
  | m + 1, i, l => evL hs n P pl ls dy K A B m (i + 1) (evT hs n P pl ls dy (K i) (A i) (B i) l)
def evV (hs : Nat → Int32) (n P : Nat) (pl : Nat → Nat) (ls : Nat → Int32) (dy : Int32) (K A B : Nat → Nat) (f e : Nat) : Int32 := (evL hs n P pl ls dy K A B (e - f) f []).headD (nI 0)
def tyO (P k a b : Nat) (ts ts' : List Bool) : Prop :=
  (((k = 44 ∨ k = 11 ∨ k = 12 ∨ k = 13 ∨ k = 14) ∨ (k = 16 ∨ k = 17) ∧ a < P) ∧ ts' = false :: ts) ∨ (((k = 19 ∨ k = 21) ∧ a < P ∧ b < P) ∧ ts' = true :: ts) ∨
  ((k = 42 ∨ k = 15) ∧ ∃ r, ts = false :: r ∧ ts' = false :: r) ∨ (k = 22 ∧ ∃ r, ts = true :: r ∧ ts' = true :: r) ∨ (k = 20 ∧ ∃ r, ts = false :: r ∧ ts' = true :: r) ∨
  ((k = 25 ∨ k = 26 ∨ k = 33 ∨ k = 34 ∨ k = 35 ∨ k = 36) ∧ ∃ r, ts = false :: false :: r ∧ ts' = false :: r) ∨ ((k = 37 ∨ k = 38 ∨ k = 39 ∨ k = 40 ∨ k = 41) ∧ ∃ r, ts = false :: false :: r ∧ ts' = true :: r) ∨ ((k = 23 ∨ k = 24) ∧ ∃ r, ts = true :: true :: r ∧ ts' = true :: r)
def tyM (P : Nat) (K A B : Nat → Nat) : Nat → Nat → List Bool → List Bool → Prop
  | 0, _, ts, ts' => ts = ts'
  | m + 1, i, ts, ts' => ∃ t1, tyO P (K i) (A i) (B i) ts t1 ∧ tyM P K A B m (i + 1) t1 ts'
def tyL : List Int32 → List Bool → Prop
  | [], [] => True
  | x :: l, b :: ts => (b = true → x = nI 0 ∨ x = nI 1) ∧ tyL l ts
  | _, _ => False
theorem i01 (c : Prop) [Decidable c] : (if c then nI 0 else nI 1) = nI 0 ∨ (if c then nI 0 else nI 1) = nI 1 := by
  by_cases h : c
  · exact Or.inl (if_pos h)
  · exact Or.inr (if_neg h)
theorem i10 (c : Prop) [Decidable c] : (if c then nI 1 else nI 0) = nI 0 ∨ (if c then nI 1 else nI 0) = nI 1 := by
  by_cases h : c
  · exact Or.inr (if_pos h)
  · exact Or.inl (if_neg h)
theorem ff : ∀ {b : Bool} {X : Prop}, b = false → (b = true → X) := fun h z => by rw [h] at z; cases z
theorem tyO_ev {hs : Nat → Int32} {n P : Nat} {pl : Nat → Nat} {ls : Nat → Int32} {dy : Int32} {k a b : Nat} {ts ts' : List Bool} {l : List Int32} (h : tyO P k a b ts ts') (hl : tyL l ts) : evO hs n P pl ls dy k a b l (evT hs n P pl ls dy k a b l) ∧ tyL (evT hs n P pl ls dy k a b l) ts' := by
  rcases h with ⟨h, rfl⟩ | ⟨h, rfl⟩ | ⟨h, r, rfl, rfl⟩ | ⟨rfl, r, rfl, rfl⟩ | ⟨rfl, r, rfl, rfl⟩ | ⟨h, r, rfl, rfl⟩ | ⟨h, r, rfl, rfl⟩ | ⟨h, r, rfl, rfl⟩
  · have hn : nulK P k a b := h.elim Or.inl (fun z => Or.inr (Or.inl z))
    have ht := (tk_nul hn).2
    have e : evT hs n P pl ls dy k a b l = f0 hs n P pl ls dy k a b :: l := by unfold evT; rw [ht]; rfl
    rw [e]
    exact ⟨Or.inl ⟨hn, rfl⟩, And.intro (ff rfl) hl⟩
  · have hn : nulK P k a b := Or.inr (Or.inr h)
    have ht := (tk_nul hn).2
    have e : evT hs n P pl ls dy k a b l = f0 hs n P pl ls dy k a b :: l := by unfold evT; rw [ht]; rfl
    rw [e]
    refine ⟨Or.inl ⟨hn, rfl⟩, And.intro (fun _ => ?_) hl⟩
    rcases h with ⟨rfl | rfl, _, _⟩
    · show (if a = b then nI 0 else if hmS hs n (pl b) (pl a) = true then nI 1 else nI 0) = nI 0 ∨ (if a = b then nI 0 else if hmS hs n (pl b) (pl a) = true then nI 1 else nI 0) = nI 1
      by_cases q : a = b
      · exact Or.inl (if_pos q)
      · rw [if_neg q]; exact i10 _
    · exact i01 _
  · have hn : oneK k := h.elim (fun z => Or.inl z) (fun z => Or.inr (Or.inr (Or.inl z)))
    have ht := (tk_one hn).2
    match l, hl with
    | x :: l, hl =>
      have e : evT hs n P pl ls dy k a b (x :: l) = f1 hs n k x :: l := by unfold evT; rw [ht]; rfl
      rw [e]
      exact ⟨Or.inr (Or.inl ⟨hn, x, l, rfl, rfl⟩), And.intro (ff rfl) hl.2⟩
  · have hn : oneK 22 := Or.inr (Or.inl rfl)
    match l, hl with
    | x :: l, hl =>
      have e : evT hs n P pl ls dy 22 a b (x :: l) = f1 hs n 22 x :: l := rfl
      rw [e]
      refine ⟨Or.inr (Or.inl ⟨hn, x, l, rfl, rfl⟩), And.intro (fun _ => ?_) hl.2⟩
      show nI 1 - x = nI 0 ∨ nI 1 - x = nI 1
      rcases hl.1 rfl with h | h <;> rw [h] <;> decide
  · have hn : oneK 20 := Or.inr (Or.inr (Or.inr rfl))
    match l, hl with
    | x :: l, hl =>
      have e : evT hs n P pl ls dy 20 a b (x :: l) = f1 hs n 20 x :: l := rfl
      rw [e]
      exact ⟨Or.inr (Or.inl ⟨hn, x, l, rfl, rfl⟩), And.intro (fun _ => i10 _) hl.2⟩
  · have hn : twoK k := by
      rcases h with h | h | h | h | h | h <;> (subst h; unfold twoK; decide)
    have ht := (tk_two hn).2
    match l, hl with
    | y :: x :: l, hl =>
      have e : evT hs n P pl ls dy k a b (y :: x :: l) = f2 k x y :: l := by unfold evT; rw [ht]; rfl
      rw [e]
      exact ⟨Or.inr (Or.inr ⟨hn, y, x, l, rfl, rfl⟩), And.intro (ff rfl) hl.2.2⟩
  · have hn : twoK k := by
      rcases h with h | h | h | h | h <;> (subst h; unfold twoK; decide)
    have ht := (tk_two hn).2
    match l, hl with
    | y :: x :: l, hl =>
      have e : evT hs n P pl ls dy k a b (y :: x :: l) = f2 k x y :: l := by unfold evT; rw [ht]; rfl
      rw [e]
      refine ⟨Or.inr (Or.inr ⟨hn, y, x, l, rfl, rfl⟩), And.intro (fun _ => ?_) hl.2.2⟩
      rcases h with rfl | rfl | rfl | rfl | rfl
      · exact i01 _
      · exact i01 _
      · exact i10 _
      · exact i01 _
      · exact i01 _
  · have hn : twoK k := by
      rcases h with h | h <;> (subst h; unfold twoK; decide)
    have ht := (tk_two hn).2
    match l, hl with
    | y :: x :: l, hl =>
      have e : evT hs n P pl ls dy k a b (y :: x :: l) = f2 k x y :: l := by unfold evT; rw [ht]; rfl
      rw [e]
      refine ⟨Or.inr (Or.inr ⟨hn, y, x, l, rfl, rfl⟩), And.intro (fun _ => ?_) hl.2.2⟩
      rcases h with rfl | rfl
      · show x &&& y = nI 0 ∨ x &&& y = nI 1
        rcases hl.1 rfl with h | h <;> rcases hl.2.1 rfl with g | g <;> rw [h, g] <;> decide
      · show x ||| y = nI 0 ∨ x ||| y = nI 1
        rcases hl.1 rfl with h | h <;> rcases hl.2.1 rfl with g | g <;> rw [h, g] <;> decide
theorem tyM_ev {hs : Nat → Int32} {n P : Nat} {pl : Nat → Nat} {ls : Nat → Int32} {dy : Int32} {K A B : Nat → Nat} {ts' : List Bool} : ∀ m i ts l, tyM P K A B m i ts ts' → tyL l ts → evM hs n P pl ls dy K A B m i l (evL hs n P pl ls dy K A B m i l) ∧ tyL (evL hs n P pl ls dy K A B m i l) ts'
  | 0, i, ts, l, h, hl => by
    have h' : ts = ts' := h
    subst h'
    exact ⟨rfl, hl⟩
  | m + 1, i, ts, l, h, hl => by
    obtain ⟨t1, h1, h2⟩ := h
    have q := tyO_ev (hs := hs) (n := n) (pl := pl) (ls := ls) (dy := dy) h1 hl
    have z := tyM_ev (hs := hs) (n := n) (pl := pl) (ls := ls) (dy := dy) m (i + 1) t1 _ h2 q.2
    exact ⟨⟨_, q.1, z.1⟩, z.2⟩
theorem ev_one {hs : Nat → Int32} {n P : Nat} {pl : Nat → Nat} {ls : Nat → Int32} {dy : Int32} {K A B : Nat → Nat} {b : Bool} {f e : Nat} (h : tyM P K A B (e - f) f [] [b]) : evM hs n P pl ls dy K A B (e - f) f [] [evV hs n P pl ls dy K A B f e] ∧ (b = true → evV hs n P pl ls dy K A B f e = nI 0 ∨ evV hs n P pl ls dy K A B f e = nI 1) := by
  have q := tyM_ev (hs := hs) (n := n) (pl := pl) (ls := ls) (dy := dy) (e - f) f [] [] h trivial
  unfold evV
  match evL hs n P pl ls dy K A B (e - f) f [], q with
  | [v], q => exact ⟨q.1, q.2.1⟩
theorem tyM_app {P : Nat} {K A B : Nat → Nat} {ts' : List Bool} : ∀ m m' i ts t1, tyM P K A B m i ts t1 → tyM P K A B m' (i + m) t1 ts' → tyM P K A B (m + m') i ts ts'
  | 0, m', i, ts, t1, h, h' => by
    have e : ts = t1 := h
    subst e
    rw [Nat.zero_add]
    exact h'
  | m + 1, m', i, ts, t1, h, h' => by
    obtain ⟨t2, h1, h2⟩ := h
    rw [Nat.succ_add]
    exact ⟨t2, h1, tyM_app m m' (i + 1) t2 t1 h2 (by rw [Nat.add_right_comm]; exact h')⟩
