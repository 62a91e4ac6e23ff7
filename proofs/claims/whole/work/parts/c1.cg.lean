/-! ===== what is reckoned depends on the towers and pigeons there are ===== -/
def agN {α : Type} (n : Nat) (h h' : Nat → α) : Prop := ∀ t, t < n → h t = h' t
theorem ag_s {α : Type} {n : Nat} {h h' : Nat → α} (e : agN n h h') : agN n h' h := fun t ht => (e t ht).symm
theorem ag_up {α : Type} {n k : Nat} {h h' : Nat → α} {x : α} (e : agN n h h') : agN n (va_up h k x) (va_up h' k x) := fun t ht => by
  by_cases q : t = k
  · rw [q, va_up_self, va_up_self]
  · rw [va_up_ne _ _ q, va_up_ne _ _ q]
    exact e t ht
theorem lfO_cg {n : Nat} {h h' : Nat → Int32} (e : agN n h h') (v : Int32) : ∀ j, j ≤ n → lfO h v j = lfO h' v j
  | 0, _ => rfl
  | j + 1, hj => by rw [lfO, lfO, e j (by omega), lfO_cg e v j (by omega)]
theorem rtO_cg {n : Nat} {h h' : Nat → Int32} (e : agN n h h') (v : Int32) : ∀ m i, i + m ≤ n → rtO h v m i = rtO h' v m i
  | 0, _, _ => rfl
  | m + 1, i, hi => by rw [rtO, rtO, e i (by omega), rtO_cg e v m (i + 1) (by omega)]
theorem rfN_cg {n : Nat} {h h' : Nat → Int32} (e : agN n h h') (v : Int32) : ∀ m i, i + m ≤ n → rfN h v m i = rfN h' v m i
  | 0, _, _ => rfl
  | m + 1, i, hi => by rw [rfN, rfN, e i (by omega), rfN_cg e v m (i + 1) (by omega)]
theorem mL_cg {n : Nat} {h h' : Nat → Int32} (e : agN n h h') : ∀ j, j ≤ n → mL h j = mL h' j
  | 0, _ => rfl
  | j + 1, hj => by rw [mL, mL, e j (by omega), mL_cg e j (by omega)]
theorem mR_cg {n : Nat} {h h' : Nat → Int32} (e : agN n h h') : ∀ m, m ≤ n → mR h n m = mR h' n m
  | 0, _ => rfl
  | m + 1, hm => by rw [mR, mR, e (n - (m + 1)) (by omega), mR_cg e m (by omega)]
theorem waS_cg {n : Nat} {h h' : Nat → Int32} (e : agN n h h') : agN n (waS h n) (waS h' n) := fun t ht => by
  unfold waS
  rw [e t ht, mL_cg e t (by omega), mR_cg e _ (by omega)]
theorem suS_cg {k : Nat} {f g : Nat → Int32} (e : agN k f g) : suS f k = suS g k := by
  induction k with
  | zero => rfl
  | succ k ih => rw [suS, suS, e k (by omega), ih (fun t ht => e t (by omega))]
theorem cL_cg {n : Nat} {h h' : Nat → Int32} (e : agN n h h') : ∀ j, j ≤ n → cL h j = cL h' j
  | 0, _ => rfl
  | j + 1, hj => by rw [cL, cL, e j (by omega), mL_cg e j (by omega), cL_cg e j (by omega)]
theorem cR_cg {n : Nat} {h h' : Nat → Int32} (e : agN n h h') : ∀ m, m ≤ n → cR h n m = cR h' n m
  | 0, _ => rfl
  | m + 1, hm => by rw [cR, cR, e (n - (m + 1)) (by omega), mR_cg e m (by omega), cR_cg e m (by omega)]
theorem wcS_cg {n : Nat} {h h' : Nat → Int32} (e : agN n h h') : ∀ m, m ≤ n → wcS h n m = wcS h' n m
  | 0, _ => rfl
  | m + 1, hm => by rw [wcS, wcS, waS_cg e (n - (m + 1)) (by omega), wcS_cg e m (by omega)]
theorem wdS_cg {k : Nat} {f g : Nat → Int32} (e : agN k f g) : wdS f k = wdS g k := by
  induction k with
  | zero => rfl
  | succ k ih => rw [wdS, wdS, e k (by omega), ih (fun t ht => e t (by omega))]
theorem wtS_cg {k : Nat} {f g : Nat → Int32} (e : agN k f g) : wtS f k = wtS g k := by
  induction k with
  | zero => rfl
  | succ k ih => rw [wtS, wtS, wdS_cg e, ih (fun t ht => e t (by omega))]
theorem hiS_cg {n : Nat} {h h' : Nat → Int32} (e : agN n h h') : ∀ k, k < n → hiS h k = hiS h' k
  | 0, _ => rfl
  | k + 1, hk => by
    have := hiS_le h' k
    rw [hiS, hiS, hiS_cg e k (by omega), e (k + 1) hk, e (hiS h' k) (by omega)]
theorem tlS_cg {n : Nat} {h h' : Nat → Int32} (e : agN n h h') : agN n (tlS h) (tlS h') := fun t ht => by
  unfold tlS
  rw [e t ht, lfO_cg e _ t (by omega)]
theorem trS_cg {n : Nat} {h h' : Nat → Int32} (e : agN n h h') : agN n (trS h n) (trS h' n) := fun t ht => by
  unfold trS
  rw [e t ht, rfN_cg e _ _ _ (by omega)]
theorem snS_cg {n : Nat} {h h' : Nat → Int32} (e : agN n h h') : agN n (snS h) (snS h') := fun t ht => by
  unfold snS
  rw [e t ht, mL_cg e t (by omega)]
theorem hmS_cg {n : Nat} {h h' : Nat → Int32} (e : agN n h h') {j t : Nat} (hj : j < n) (ht : t < n) : hmS h n j t = hmS h' n j t := by
  unfold hmS
  rw [e j hj, lfO_cg e _ j (by omega), rtO_cg e _ _ _ (by omega)]
theorem glS_cg {n : Nat} {h h' : Nat → Int32} (e : agN n h h') {b : Int32} {j : Nat} (hj : j < n) : glS h n b j = glS h' n b j := by
  unfold glS
  cases j with
  | zero =>
    by_cases hb : b = 0
    · rw [if_pos hb, if_pos hb]
    · rw [if_neg hb, if_neg hb, e 0 hj]
      by_cases q : 0 + 1 < n
      · rw [e (0 + 1) q]
      · rw [if_neg (fun z => q z.1), if_neg (fun z => q z.1)]
  | succ i =>
    by_cases hb : b = 0
    · rw [if_pos hb, if_pos hb]
      dsimp only
      rw [e i (by omega), e (i + 1) hj]
    · rw [if_neg hb, if_neg hb, e (i + 1) hj]
      by_cases q : i + 1 + 1 < n
      · rw [e (i + 1 + 1) q]
      · rw [if_neg (fun z => q z.1), if_neg (fun z => q z.1)]
theorem goG_cg {n : Nat} {h h' : Nat → Int32} (e : agN n h h') {k : Nat} {b : Int32} {j : Nat} (hj : j < n) : goG h n k b j = goG h' n k b j := by
  unfold goG goH
  rw [glS_cg e hj, e j hj, lfO_cg e _ j (by omega), rtO_cg e _ _ _ (by omega)]
theorem tqS_cg {f g : Nat → Int32} : ∀ k, agN (k + 1) f g → tqS f k = tqS g k
  | 0, _ => rfl
  | k + 1, e => by
    have ih := tqS_cg k (fun t ht => e t (by omega))
    have : tqS g k ≤ k := by
      clear ih e
      induction k with
      | zero => exact Nat.le_refl _
      | succ k ih =>
        rw [tqS]
        split
        · omega
        · omega
    rw [tqS, tqS, ih, e (tqS g k) (by omega), e (k + 1) (by omega)]
theorem qpS_cg {f g : Nat → Int32} : ∀ k, agN k f g → qpS f k = qpS g k
  | 0, _ => rfl
  | k + 1, e => by
    have ih := qpS_cg k (fun t ht => e t (by omega))
    rw [qpS, qpS, ih]
    cases hq : qpS g k with
    | none => rfl
    | some j =>
      dsimp only
      have := qpS_lt g k j hq
      rw [e j (by omega), e k (by omega)]
theorem nzF_cg {n : Nat} {h h' : Nat → Int32} (e : agN n h h') {P : Nat} {pl pl' : Nat → Nat} {ls ls' : Nat → Int32} (ep : agN P pl pl') (el : agN P ls ls') (hp : ∀ q, q < P → pl q < n) {p p' t : Nat} (ht : t < n) (hpp : p = p') : agN P (nzF h n pl ls p t) (nzF h' n pl' ls' p' t) := fun o ho => by
  subst hpp
  unfold nzF
  rw [← ep o ho, hmS_cg e (hp o ho) ht, el o ho]
theorem no_cg {n : Nat} {h h' : Nat → Int32} (e : agN n h h') {P : Nat} {pl pl' : Nat → Nat} {ls ls' : Nat → Int32} (ep : agN P pl pl') (el : agN P ls ls') (hp : ∀ q, q < P → pl q < n) {p t : Nat} (ht : t < n) : suS (nzF h n pl ls p t) P = suS (nzF h' n pl' ls' p t) P := suS_cg (nzF_cg e ep el hp ht rfl)
theorem rwF_cg {n : Nat} {h h' : Nat → Int32} (e : agN n h h') : agN n (rwF h n) (rwF h' n) := fun t ht => by
  unfold rwF
  rw [e t ht, suS_cg (waS_cg (ag_up (k := t) (x := h' t + nI 1) e))]
theorem tbS_cg {f g : Nat → Int32} : ∀ k, agN k f g → tbS f k = tbS g k
  | 0, _ => rfl
  | k + 1, e => by rw [tbS, tbS, e k (by omega), tbS_cg k (fun t ht => e t (by omega))]
/-! steps, orders, days -/
theorem f1_cg {n : Nat} {h h' : Nat → Int32} (e : agN n h h') (h0 : 0 < n) (hn : n ≤ 16) {k : Nat} {a : Int32} : f1 h n k a = f1 h' n k a := by
  have hf : fmN a n < n := fmN_lt a h0
  unfold f1
  split
  · rfl
  · rfl
  · exact e _ hf
  · rw [waS_cg e _ hf]
  · rfl
theorem f0_cg {n : Nat} {h h' : Nat → Int32} (e : agN n h h') {P : Nat} {pl pl' : Nat → Nat} {ls ls' : Nat → Int32} (ep : agN P pl pl') (el : agN P ls ls') (hp : ∀ q, q < P → pl q < n) {dy : Int32} {k a b : Nat} (hk : nulK P k a b) : f0 h n P pl ls dy k a b = f0 h' n P pl' ls' dy k a b := by
  rcases hk with (rfl | rfl | rfl | rfl | rfl) | ⟨rfl | rfl, ha⟩ | ⟨rfl | rfl, ha, hb⟩
  · simp only [f0]
  · simp only [f0]
  · simp only [f0]
    exact suS_cg (waS_cg e)
  · simp only [f0]
    exact cL_cg e n (Nat.le_refl _)
  · simp only [f0]
  · simp only [f0]
    rw [← ep a ha]
    exact no_cg e ep el hp (hp a ha)
  · simp only [f0]
    rw [ep a ha]
  · simp only [f0]
    rw [← ep a ha, ← ep b hb, hmS_cg e (hp b hb) (hp a ha)]
  · simp only [f0]
    rw [← ep a ha, ← ep b hb, e _ (hp a ha), e _ (hp b hb)]
theorem evT_cg {n : Nat} {h h' : Nat → Int32} (e : agN n h h') {P : Nat} {pl pl' : Nat → Nat} {ls ls' : Nat → Int32} (ep : agN P pl pl') (el : agN P ls ls') (hp : ∀ q, q < P → pl q < n) (h0 : 0 < n) (hn : n ≤ 16) {dy : Int32} {k a b : Nat} {ts ts' : List Bool} (hk : tyO P k a b ts ts') (l : List Int32) : evT h n P pl ls dy k a b l = evT h' n P pl' ls' dy k a b l := by
  unfold evT
  split
  · rfl
  · split
    · cases l with
      | nil => rfl
      | cons x r => exact congrArg (· :: r) (f1_cg e h0 hn)
    · rename_i h2 h1
      have hk : nulK P k a b := by
        rcases hk with ⟨z, _⟩ | ⟨z, _⟩ | ⟨z, _⟩ | ⟨z, _⟩ | ⟨z, _⟩ | ⟨z, _⟩ | ⟨z, _⟩ | ⟨z, _⟩
        · exact z.elim .inl (fun y => .inr (.inl y))
        · exact .inr (.inr z)
        · exact absurd (tk_one (k := k) (z.elim (fun y => .inl y) (fun y => .inr (.inr (.inl y))))).2 h1
        · exact absurd (tk_one (k := k) (.inr (.inl z))).2 h1
        · exact absurd (tk_one (k := k) (.inr (.inr (.inr z)))).2 h1
        · exact absurd (tk_two (k := k) (by unfold twoK; omega)).2 h2
        · exact absurd (tk_two (k := k) (by unfold twoK; omega)).2 h2
        · exact absurd (tk_two (k := k) (by unfold twoK; omega)).2 h2
      rw [f0_cg e ep el hp hk]
theorem evL_cg {n : Nat} {h h' : Nat → Int32} (e : agN n h h') {P : Nat} {pl pl' : Nat → Nat} {ls ls' : Nat → Int32} (ep : agN P pl pl') (el : agN P ls ls') (hp : ∀ q, q < P → pl q < n) (h0 : 0 < n) (hn : n ≤ 16) {dy : Int32} {K A B : Nat → Nat} : ∀ (m i : Nat) (ts ts' : List Bool) (l : List Int32), tyM P K A B m i ts ts' → evL h n P pl ls dy K A B m i l = evL h' n P pl' ls' dy K A B m i l
  | 0, _, _, _, _, _ => rfl
  | m + 1, i, ts, ts', l, ⟨t1, h1, h2⟩ => by
    rw [evL, evL, evT_cg e ep el hp h0 hn h1]
    exact evL_cg e ep el hp h0 hn m (i + 1) t1 ts' _ h2
theorem ordF_cg {n : Nat} {h h' : Nat → Int32} (e : agN n h h') {P : Nat} {pl pl' : Nat → Nat} {ls ls' : Nat → Int32} (ep : agN P pl pl') (el : agN P ls ls') (hp : ∀ q, q < P → pl q < n) (h0 : 0 < n) (hn : n ≤ 16) {dy : Int32} {K A B : Nat → Nat} {k q : Nat} {b : Int32} {f t e' : Nat} (hw : ordW P K A B k q b f t e') : agN n (ordF h n P pl ls dy K A B k q b f t e').1 (ordF h' n P pl' ls' dy K A B k q b f t e').1 ∧ agN P (ordF h n P pl ls dy K A B k q b f t e').2.1 (ordF h' n P pl' ls' dy K A B k q b f t e').2.1 ∧ (ordF h n P pl ls dy K A B k q b f t e').2.2 = (ordF h' n P pl' ls' dy K A B k q b f t e').2.2 := by
  obtain ⟨w1, w2, w3, w4, w5, w6⟩ := hw
  have ev2 : t < e' → evV h n P pl ls dy K A B t e' = evV h' n P pl' ls' dy K A B t e' := fun z => by
    unfold evV
    rw [evL_cg e ep el hp h0 hn _ _ _ _ _ (w6 z)]
  have hc : (t < e' ∧ evV h n P pl ls dy K A B t e' = nI 0) ↔ (t < e' ∧ evV h' n P pl' ls' dy K A B t e' = nI 0) := ⟨fun z => ⟨z.1, (ev2 z.1).symm.trans z.2⟩, fun z => ⟨z.1, (ev2 z.1).trans z.2⟩⟩
  unfold ordF
  by_cases c1 : t < e' ∧ evV h n P pl ls dy K A B t e' = nI 0
  · rw [if_pos c1, if_pos (hc.mp c1)]
    exact ⟨e, ep, rfl⟩
  · rw [if_neg c1, if_neg (fun z => c1 (hc.mpr z))]
    by_cases c2 : k = 4 ∨ k = 5
    · rw [if_pos c2, if_pos c2]
      have hq : q < P := by
        rcases w2 with z | z
        · exact z.2
        · omega
      rw [← ep q hq, goG_cg e (hp q hq)]
      cases goG h' n k b (pl q) with
      | none => exact ⟨e, ep, rfl⟩
      | some g => exact ⟨e, ag_up ep, rfl⟩
    · rw [if_neg c2, if_neg c2]
      have ev1 : evV h n P pl ls dy K A B f t = evV h' n P pl' ls' dy K A B f t := by
        unfold evV
        rcases w2 with z | z
        · exact absurd z.1 c2
        · rw [evL_cg e ep el hp h0 hn _ _ _ _ _ z.2]
      have hf := fmN_lt (evV h' n P pl' ls' dy K A B f t) h0
      rw [ev1, e _ hf]
      by_cases c3 : ccS (nI k) (h' (fmN (evV h' n P pl' ls' dy K A B f t) n)) = nI 0
      · rw [if_pos c3, if_pos c3]
        exact ⟨e, ep, rfl⟩
      · rw [if_neg c3, if_neg c3]
        exact ⟨ag_up e, ep, rfl⟩
theorem ordsF_cg {n P : Nat} {ls ls' : Nat → Int32} {dy : Int32} {K A B : Nat → Nat} {od : Nat → Nat × Nat × Int32 × Nat × Nat × Nat} (el : agN P ls ls') (h0 : 0 < n) (hn : n ≤ 16) : ∀ m i h h' pl pl' co, agN n h h' → agN P pl pl' → (∀ z, z < P → pl z < n) → hR n h → (∀ z, z < i + m → ordW1 P K A B (od z)) → agN n (ordsF n P ls dy K A B od m i h pl co).1 (ordsF n P ls' dy K A B od m i h' pl' co).1 ∧ agN P (ordsF n P ls dy K A B od m i h pl co).2.1 (ordsF n P ls' dy K A B od m i h' pl' co).2.1 ∧ (ordsF n P ls dy K A B od m i h pl co).2.2 = (ordsF n P ls' dy K A B od m i h' pl' co).2.2
  | 0, _, _, _, _, _, _, e, ep, _, _, _ => ⟨e, ep, rfl⟩
  | m + 1, i, h, h', pl, pl', co, e, ep, hp, hr, hw => by
    obtain ⟨x1, x2, x3⟩ := ordF_cg (dy := dy) e ep el hp h0 hn (hw i (by omega))
    obtain ⟨y1, y2⟩ := ordF_ok (hs := h) (ls := ls) (dy := dy) h0 (hw i (by omega)) hp hr
    rw [ordsF, ordsF]
    have x3' : (ord1 h n P pl ls dy K A B (od i)).2.2 = (ord1 h' n P pl' ls' dy K A B (od i)).2.2 := x3
    rw [← x3']
    exact ordsF_cg el h0 hn m (i + 1) _ _ _ _ _ x1 x2 y2 y1 (fun z hz => hw z (by omega))
theorem dayF_cg {n P O : Nat} {ls ls' : Nat → Int32} {dy co : Int32} {K A B : Nat → Nat} {od : Nat → Nat × Nat × Int32 × Nat × Nat × Nat} {h h' : Nat → Int32} {pl pl' : Nat → Nat} (el : agN P ls ls') (h0 : 0 < n) (hn : n ≤ 16) (e : agN n h h') (ep : agN P pl pl') (hp : ∀ z, z < P → pl z < n) (hr : hR n h) (hw : ∀ z, z < O → ordW1 P K A B (od z)) : agN n (dayF n P O ls K A B od h pl dy co).1 (dayF n P O ls' K A B od h' pl' dy co).1 ∧ agN P (dayF n P O ls K A B od h pl dy co).2.1 (dayF n P O ls' K A B od h' pl' dy co).2.1 ∧ (dayF n P O ls K A B od h pl dy co).2.2 = (dayF n P O ls' K A B od h' pl' dy co).2.2 := by
  obtain ⟨x1, x2, x3⟩ := ordsF_cg (dy := dy) el h0 hn O 0 h h' pl pl' co e ep hp hr (fun z hz => hw z (by omega))
  obtain ⟨_, y2⟩ := ordsF_ok (ls := ls) (dy := dy) h0 O 0 h pl co (fun z hz => hw z (by omega)) hp hr
  refine ⟨x1, fun q hq => ?_, x3⟩
  show ndS _ n _ n 0 = ndS _ n _ n 0
  rw [← x2 q hq]
  exact ndS_cg (y2 q hq) (waS_cg x1) n 0
theorem itD_cg {n P O : Nat} {ls ls' : Nat → Int32} {K A B : Nat → Nat} {od : Nat → Nat × Nat × Int32 × Nat × Nat × Nat} (el : agN P ls ls') (h0 : 0 < n) (hn : n ≤ 16) (hw : ∀ z, z < O → ordW1 P K A B (od z)) : ∀ m h h' pl pl' dy co, agN n h h' → agN P pl pl' → (∀ z, z < P → pl z < n) → hR n h → agN n (itD n P O ls K A B od m h pl dy co).1 (itD n P O ls' K A B od m h' pl' dy co).1 ∧ agN P (itD n P O ls K A B od m h pl dy co).2.1 (itD n P O ls' K A B od m h' pl' dy co).2.1 ∧ (itD n P O ls K A B od m h pl dy co).2.2 = (itD n P O ls' K A B od m h' pl' dy co).2.2
  | 0, _, _, _, _, _, _, e, ep, _, _ => ⟨e, ep, rfl⟩
  | m + 1, h, h', pl, pl', dy, co, e, ep, hp, hr => by
    obtain ⟨x1, x2, x3⟩ := dayF_cg (dy := dy) (co := co) el h0 hn e ep hp hr hw
    have y := dayF_ok (ls := ls) (dy := dy) (co := co) h0 hw hp hr
    rw [itD, itD, ← x3]
    exact itD_cg el h0 hn hw m _ _ _ _ _ _ x1 x2 y.2 y.1
theorem untF_cg {n P O a o : Nat} {ls ls' : Nat → Int32} {K A B : Nat → Nat} {od : Nat → Nat × Nat × Int32 × Nat × Nat × Nat} (el : agN P ls ls') (h0 : 0 < n) (hn : n ≤ 16) (ha : a < P) (ho : o < P) (hw : ∀ z, z < O → ordW1 P K A B (od z)) : ∀ m x h h' pl pl' dy co, agN n h h' → agN P pl pl' → (∀ z, z < P → pl z < n) → hR n h → untF n P O ls K A B od a o m x h pl dy co = untF n P O ls' K A B od a o m x h' pl' dy co
  | 0, _, _, _, _, _, _, _, _, _, _, _ => rfl
  | m + 1, x, h, h', pl, pl', dy, co, e, ep, hp, hr => by
    obtain ⟨x1, x2, x3⟩ := dayF_cg (dy := dy) (co := co) el h0 hn e ep hp hr hw
    have y := dayF_ok (ls := ls) (dy := dy) (co := co) h0 hw hp hr
    rw [untF, untF, ← x3, ← ep a ha, ← ep o ho, hmS_cg e (hp o ho) (hp a ha), untF_cg el h0 hn ha ho hw m _ _ _ _ _ _ _ x1 x2 y.2 y.1]
