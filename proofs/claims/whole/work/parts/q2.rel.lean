theorem mxV_ok {o i sort y n ci : Nat} (h : mxVl o i = some (sort, y, n, ci)) : ∃ p, mxVp o i sort y n ci p = true := by
  have h1 := mx_all (ck := mxVc) mxV_ck h
  unfold mxVc at h1
  dsimp only at h1
  cases hp : mxVE.lookup (o, i) with
  | none => rw [hp] at h1; cases h1
  | some p => rw [hp] at h1; exact ⟨p, h1⟩
/-! ===== how the small machine's state lies in the large one's heap ===== -/
abbrev mxG : Type := Nat × (Nat → Nat) × Value × (Nat → ClassId) × va_G × Nat × (Nat → Int32)
abbrev gB (G : mxG) : Nat := G.1
abbrev mxgA (G : mxG) : Nat → Nat := G.2.1
abbrev gF (G : mxG) : Value := G.2.2.1
abbrev gC (G : mxG) : Nat → ClassId := G.2.2.2.1
abbrev gD (G : mxG) : va_G := G.2.2.2.2.1
abbrev gL (G : mxG) : Nat := G.2.2.2.2.2.1
abbrev gX (G : mxG) : Nat → Int32 := G.2.2.2.2.2.2
def mxad (G : mxG) (a : Nat) : Nat := if a < 1000 then mxgA G a else gB G + (a - 1000)
def mxtr (G : mxG) : Value → Value
  | .ref a => if a = 998 then gF G else .ref (mxad G a)
  | v => v
abbrev mxCt : Type := (Nat → Int32) ⊕ (Nat → Int64) ⊕ (Nat → UInt32) ⊕ (Nat → UInt64) ⊕ (Nat → Option Nat)
def mxsum (G : mxG) : mxCt → mxCt
  | .inr (.inr (.inr (.inr f))) => .inr (.inr (.inr (.inr (fun j => (f j).map (mxad G)))))
  | c => c
def mxfree (G : mxG) : Nat → Prop := fun q => gB G ≤ q
def mxtyp : Nat → FieldType
  | 0 => .int
  | 1 => .long
  | 2 => .byte
  | 3 => .boolean
  | 4 => .object "RoofPigeons$Kind"
  | 5 => .object "RoofPigeons$Order"
  | _ => .object "java/lang/String"
def mxtys (G : mxG) : List (ClassId × FieldType) := [(gC G 0, .int), (gC G 1, .long), (gC G 2, .byte), (gC G 3, .boolean), (gC G 4, .object "RoofPigeons$Kind"), (gC G 5, .object "RoofPigeons$Order")]
theorem mxtys_at (G : mxG) {t : Nat} (h : t < 6) : (mxtys G)[t]? = some (gC G t, mxtyp t) := by
  match t, h with
  | 0, _ => rfl
  | 1, _ => rfl
  | 2, _ => rfl
  | 3, _ => rfl
  | 4, _ => rfl
  | 5, _ => rfl
/-- no row holds the opaque constant 998 -/
def mxno : mxCt → Prop
  | .inr (.inr (.inr (.inr f))) => ∀ j, f j ≠ some 998
  | _ => True
def mxCell (G : mxG) (e : mxC) (q : Nat) (H : Heap) : Prop := match e with
  | .inl (t, n, c) => t < 6 ∧ va_at (gD G) mxcl (q, .inl (gC G t, n, mxsum G c)) H ∧ mxno c
  | .inr (ci, fs) => ci = 99 ∨ (ci < 11 ∧ va_at (gD G) mxcl (q, .inr (ci, fs.map (mxtr G))) H)
theorem mxCell.kept {G : mxG} {e : mxC} {q : Nat} {H H1 : Heap} (h : mxCell G e q H) (hq : H1[q]? = H[q]?) : mxCell G e q H1 := by
  match e, h with
  | .inl (t, n, c), h => exact ⟨h.1, h.2.1.kept hq, h.2.2⟩
  | .inr (ci, fs), h => exact h.imp id (fun h => ⟨h.1, h.2.kept hq⟩)
def mxRel (G : mxG) (σ : mxS) (H : Heap) : Prop := H.size = gB G + σ.2.1 ∧ (∀ a, a < 1000 → σ.1 a = mxkon (gL G) (gX G) a) ∧ ∀ k, k < σ.2.1 → mxCell G (σ.1 (1000 + k)) (gB G + k) H
theorem mxRel.cell {G : mxG} {σ : mxS} {H : Heap} (h : mxRel G σ H) {a : Nat} (h1 : 1000 ≤ a) (h2 : a < 1000 + σ.2.1) : mxCell G (σ.1 a) (mxad G a) H := by
  have := h.2.2 (a - 1000) (by omega)
  rw [show 1000 + (a - 1000) = a by omega] at this
  rw [mxad, if_neg (by omega)]
  exact this
theorem mxad_lt {G : mxG} {σ : mxS} {H : Heap} (h : mxRel G σ H) {a : Nat} (h1 : 1000 ≤ a) (h2 : a < 1000 + σ.2.1) : mxad G a < H.size := by
  rw [mxad, if_neg (by omega), h.1]; omega
theorem mxad_free (G : mxG) {a : Nat} (h1 : 1000 ≤ a) : mxfree G (mxad G a) := by
  rw [mxad, if_neg (by omega)]; exact Nat.le_add_right _ _
theorem mxRel.wr {G : mxG} {σ : mxS} {H H1 : Heap} (h : mxRel G σ H) {a : Nat} {e : mxC} (h1 : 1000 ≤ a) (h2 : a < 1000 + σ.2.1) (hz : H1.size = H.size) (ho : ∀ q : Nat, q ≠ mxad G a → H1[q]? = H[q]?) (he : mxCell G e (mxad G a) H1) : mxRel G (mxWr σ a e) H1 := by
  refine ⟨hz.trans h.1, fun b hb => ?_, fun k hk => ?_⟩
  · show va_up σ.1 a e b = _
    rw [va_up_ne _ _ (by omega)]
    exact h.2.1 b hb
  · show mxCell G (va_up σ.1 a e (1000 + k)) _ _
    by_cases q : 1000 + k = a
    · rw [q, va_up_self]
      rw [mxad, if_neg (by omega)] at he
      rw [show gB G + k = gB G + (a - 1000) by omega]
      exact he
    · rw [va_up_ne _ _ q]
      refine (h.2.2 k hk).kept (ho _ ?_)
      rw [mxad, if_neg (by omega)]
      omega
theorem mxRel.al {G : mxG} {σ : mxS} {H H1 : Heap} (h : mxRel G σ H) {e : mxC} {k : Nat} (hz : H1.size = H.size + 1) (ho : ∀ q : Nat, q < H.size → H1[q]? = H[q]?) (he : mxCell G e H.size H1) : mxRel G (mxAl σ e k) H1 := by
  refine ⟨by rw [hz, h.1]; rfl, fun b hb => ?_, fun j hj => ?_⟩
  · show va_up σ.1 (1000 + σ.2.1) e b = _
    rw [va_up_ne _ _ (by omega)]
    exact h.2.1 b hb
  · show mxCell G (va_up σ.1 (1000 + σ.2.1) e (1000 + j)) _ _
    have hj' : j < σ.2.1 + 1 := hj
    by_cases q : j = σ.2.1
    · subst q
      rw [va_up_self, ← h.1]
      exact he
    · rw [va_up_ne _ _ (by omega)]
      refine (h.2.2 j (by omega)).kept (ho _ ?_)
      rw [h.1]
      omega
theorem mxtr_cat (G : mxG) (hF : gF G = .null ∨ ∃ a, gF G = .ref a) (v : Value) : (mxtr G v).category = v.category := by
  cases v with
  | ref a =>
    show (if a = 998 then gF G else .ref (mxad G a)).category = 1
    split
    · rcases hF with h | ⟨x, h⟩ <;> rw [h] <;> rfl
    · rfl
  | _ => rfl
theorem mxcat_tr (G : mxG) (hF : gF G = .null ∨ ∃ a, gF G = .ref a) : ∀ l : List Value, ((l.map (mxtr G)).map fun v => v.category).sum = mxcat l
  | [] => rfl
  | v :: l => by
    simp only [List.map_cons, List.sum_cons, mxcat]
    rw [mxtr_cat G hF v, mxcat_tr G hF l]
/-! the locals -/
def mxLR (G : mxG) (ls : Array Slot) (nL : Nat) (loc : mxL) : Prop := ls.size = nL ∧ lv_wf ls ∧ loc.length ≤ nL ∧ ∀ i v, mxat loc i = some v → ls[i]? = some (.val (mxtr G v))
def mxlv (G : mxG) : Nat → mxL → List (Nat × Value)
  | _, [] => []
  | i, none :: l => mxlv G (i + 1) l
  | i, some v :: l => (i, mxtr G v) :: mxlv G (i + 1) l
theorem mxlv_mem (G : mxG) : ∀ (l : mxL) (i : Nat) (q : Nat × Value), q ∈ mxlv G i l ↔ ∃ j v, mxat l j = some v ∧ q = (i + j, mxtr G v)
  | [], i, q => by simp [mxlv, mxat]
  | none :: l, i, q => by
    rw [mxlv, mxlv_mem G l]
    constructor
    · rintro ⟨j, v, h1, h2⟩
      exact ⟨j + 1, v, h1, by rw [h2]; congr 1; omega⟩
    · rintro ⟨j, v, h1, h2⟩
      cases j with
      | zero => simp [mxat] at h1
      | succ j => exact ⟨j, v, h1, by rw [h2]; congr 1; omega⟩
  | some w :: l, i, q => by
    rw [mxlv, List.mem_cons, mxlv_mem G l]
    constructor
    · rintro (h | ⟨j, v, h1, h2⟩)
      · exact ⟨0, w, rfl, h⟩
      · exact ⟨j + 1, v, h1, by rw [h2]; congr 1; omega⟩
    · rintro ⟨j, v, h1, h2⟩
      cases j with
      | zero =>
        simp only [mxat] at h1
        cases h1
        exact Or.inl h2
      | succ j => exact Or.inr ⟨j, v, h1, by rw [h2]; congr 1; omega⟩
theorem mxLR.has {G : mxG} {ls : Array Slot} {nL : Nat} {loc : mxL} (h : mxLR G ls nL loc) : lv_has ls nL (mxlv G 0 loc) := by
  refine ⟨h.1, h.2.1, fun q hq => ?_⟩
  obtain ⟨j, v, h1, rfl⟩ := (mxlv_mem G loc 0 q).mp hq
  simpa using h.2.2.2 j v h1
theorem mxst1_len (l : mxL) (k : Nat) (v : Value) : (mxst1 l k v).length = l.length := by
  induction l, k, v using mxst1.induct <;> simp_all [mxst1]
theorem mxst2_len (l : mxL) (k : Nat) (v : Value) (h : k + 1 < l.length) : (mxst2 l k v).length = l.length := by
  induction l, k, v using mxst2.induct <;> simp_all [mxst2]
theorem mxkill_some {p : Option Value} {w : Value} (h : mxkill p = some w) : p = some w ∧ ¬ w.category = 2 := by
  cases p with
  | none => cases h
  | some v => cases v <;> simp_all [mxkill, Value.category] <;> (subst h; simp [Value.category])
theorem mxat_st1 : ∀ (l : mxL) (i : Nat) (v : Value) (j : Nat) (w : Value), i < l.length → mxat (mxst1 l i v) j = some w → (j = i ∧ w = v) ∨ (j ≠ i ∧ mxat l j = some w ∧ ¬ (j + 1 = i ∧ w.category = 2))
  | [], _, _, _, _, h, _ => absurd h (Nat.not_lt_zero _)
  | p :: l, 0, v, j, w, _, h => by
    rw [mxst1] at h
    cases j with
    | zero => simp only [mxat] at h; cases h; exact Or.inl ⟨rfl, rfl⟩
    | succ j => exact Or.inr ⟨by omega, h, by omega⟩
  | [p], 1, v, j, w, hl, h => by simp at hl
  | p :: p2 :: l, 1, v, j, w, _, h => by
    rw [mxst1] at h
    match j with
    | 0 =>
      simp only [mxat] at h ⊢
      obtain ⟨h1, h2⟩ := mxkill_some h
      exact Or.inr ⟨by omega, h1, fun q => h2 q.2⟩
    | 1 => simp only [mxat] at h; cases h; exact Or.inl ⟨rfl, rfl⟩
    | j + 2 => exact Or.inr ⟨by omega, h, by omega⟩
  | p :: l, i + 2, v, j, w, hl, h => by
    have e : mxst1 (p :: l) (i + 2) v = p :: mxst1 l (i + 1) v := by cases l <;> rfl
    rw [e] at h
    cases j with
    | zero => simp only [mxat] at h ⊢; exact Or.inr ⟨by omega, h, by omega⟩
    | succ j =>
      have hl' : i + 1 < l.length := by simp only [List.length_cons] at hl; omega
      rcases mxat_st1 l (i + 1) v j w hl' h with ⟨a, b⟩ | ⟨a, b, c⟩
      · exact Or.inl ⟨by omega, b⟩
      · exact Or.inr ⟨by omega, b, fun q => c ⟨by omega, q.2⟩⟩
theorem mxat_st2 : ∀ (l : mxL) (i : Nat) (v : Value) (j : Nat) (w : Value), i + 1 < l.length → mxat (mxst2 l i v) j = some w → (j = i ∧ w = v) ∨ (j ≠ i ∧ j ≠ i + 1 ∧ mxat l j = some w ∧ ¬ (j + 1 = i ∧ w.category = 2))
  | [], _, _, _, _, h, _ => absurd h (Nat.not_lt_zero _)
  | [p], 0, v, j, w, hl, h => by simp at hl
  | p :: p2 :: l, 0, v, j, w, _, h => by
    rw [mxst2] at h
    match j with
    | 0 => simp only [mxat] at h; cases h; exact Or.inl ⟨rfl, rfl⟩
    | 1 => simp [mxat] at h
    | j + 2 => exact Or.inr ⟨by omega, by omega, h, by omega⟩
  | [p], 1, v, j, w, hl, h => by simp at hl
  | [p, p2], 1, v, j, w, hl, h => by simp at hl
  | p :: p2 :: p3 :: l, 1, v, j, w, _, h => by
    rw [mxst2] at h
    match j with
    | 0 =>
      simp only [mxat] at h ⊢
      obtain ⟨h1, h2⟩ := mxkill_some h
      exact Or.inr ⟨by omega, by omega, h1, fun q => h2 q.2⟩
    | 1 => simp only [mxat] at h; cases h; exact Or.inl ⟨rfl, rfl⟩
    | 2 => simp [mxat] at h
    | j + 3 => exact Or.inr ⟨by omega, by omega, h, by omega⟩
  | p :: l, i + 2, v, j, w, hl, h => by
    have e : mxst2 (p :: l) (i + 2) v = p :: mxst2 l (i + 1) v := by
      match l with
      | [] => rfl
      | [_] => rfl
      | _ :: _ :: _ => rfl
    rw [e] at h
    cases j with
    | zero => simp only [mxat] at h ⊢; exact Or.inr ⟨by omega, by omega, h, by omega⟩
    | succ j =>
      have hl' : i + 1 + 1 < l.length := by simp only [List.length_cons] at hl; omega
      rcases mxat_st2 l (i + 1) v j w hl' h with ⟨a, b⟩ | ⟨a, b, c, d⟩
      · exact Or.inl ⟨by omega, b⟩
      · exact Or.inr ⟨by omega, by omega, c, fun q => d ⟨by omega, q.2⟩⟩
theorem mxLR.st1 {G : mxG} {ls ls' : Array Slot} {nL i : Nat} {loc : mxL} {v v' : Value} (h : mxLR G ls nL loc) (hi : i < loc.length) (hv : v' = mxtr G v) (hF : gF G = .null ∨ ∃ a, gF G = .ref a)
    (h' : lv_has ls' nL ((i, v') :: (mxlv G 0 loc).filter (fun q => !(q.1 == i) && !(q.1 + 1 == i && q.2.category == 2)))) : mxLR G ls' nL (mxst1 loc i v) := by
  refine ⟨h'.1, h'.2.1, by rw [mxst1_len]; exact h.2.2.1, fun j w hj => ?_⟩
  rcases mxat_st1 loc i v j w hi hj with ⟨rfl, rfl⟩ | ⟨a, b, c⟩
  · rw [← hv]
    exact h'.2.2 _ List.mem_cons_self
  · refine h'.2.2 (j, mxtr G w) (List.mem_cons_of_mem _ (List.mem_filter.mpr ⟨(mxlv_mem G loc 0 _).mpr ⟨j, w, b, by rw [Nat.zero_add]⟩, ?_⟩))
    simp only [mxtr_cat G hF]
    simp only [Bool.and_eq_true, Bool.not_eq_true', beq_eq_false_iff_ne, ne_eq, Bool.and_eq_false_iff]
    refine ⟨a, ?_⟩
    by_cases q : j + 1 = i
    · exact Or.inr (fun z => c ⟨q, z⟩)
    · exact Or.inl q
theorem mxLR.st2 {G : mxG} {ls ls' : Array Slot} {nL i : Nat} {loc : mxL} {v v' : Value} (h : mxLR G ls nL loc) (hi : i + 1 < loc.length) (hv : v' = mxtr G v) (hF : gF G = .null ∨ ∃ a, gF G = .ref a)
    (h' : lv_has ls' nL ((i, v') :: (mxlv G 0 loc).filter (fun q => !(q.1 == i) && (!(q.1 == i + 1) && !(q.1 + 1 == i && q.2.category == 2))))) : mxLR G ls' nL (mxst2 loc i v) := by
  refine ⟨h'.1, h'.2.1, by rw [mxst2_len _ _ _ hi]; exact h.2.2.1, fun j w hj => ?_⟩
  rcases mxat_st2 loc i v j w hi hj with ⟨rfl, rfl⟩ | ⟨a, a2, b, c⟩
  · rw [← hv]
    exact h'.2.2 _ List.mem_cons_self
  · refine h'.2.2 (j, mxtr G w) (List.mem_cons_of_mem _ (List.mem_filter.mpr ⟨(mxlv_mem G loc 0 _).mpr ⟨j, w, b, by rw [Nat.zero_add]⟩, ?_⟩))
    simp only [mxtr_cat G hF]
    simp only [Bool.and_eq_true, Bool.not_eq_true', beq_eq_false_iff_ne, ne_eq, Bool.and_eq_false_iff]
    refine ⟨a, a2, ?_⟩
    by_cases q : j + 1 = i
    · exact Or.inr (fun z => c ⟨q, z⟩)
    · exact Or.inl q
theorem mxat_drop : ∀ (l : mxL) (k j : Nat) (w : Value), mxat (mxdrop l k) j = some w → j ≠ k ∧ mxat l j = some w ∧ ¬ (j + 1 = k ∧ w.category = 2)
  | [], k, j, w, h => by rw [mxdrop] at h; cases h
  | p :: l, 0, j, w, h => by
    rw [mxdrop] at h
    cases j with
    | zero => cases h
    | succ j => exact ⟨by omega, h, by omega⟩
  | p :: l, 1, j, w, h => by
    rw [mxdrop] at h
    cases j with
    | zero =>
      simp only [mxat] at h ⊢
      obtain ⟨h1, h2⟩ := mxkill_some h
      exact ⟨by omega, h1, fun q => h2 q.2⟩
    | succ j =>
      obtain ⟨a, b, c⟩ := mxat_drop l 0 j w h
      exact ⟨by omega, b, by omega⟩
  | p :: l, k + 2, j, w, h => by
    rw [mxdrop] at h
    cases j with
    | zero => exact ⟨by omega, h, by omega⟩
    | succ j =>
      obtain ⟨a, b, c⟩ := mxat_drop l (k + 1) j w h
      exact ⟨by omega, b, fun q => c ⟨by omega, q.2⟩⟩
theorem mxdrop_len : ∀ (l : mxL) (k : Nat), (mxdrop l k).length = l.length
  | [], _ => by rw [mxdrop]
  | p :: l, 0 => by rw [mxdrop]; rfl
  | p :: l, 1 => by rw [mxdrop, List.length_cons, mxdrop_len l 0, List.length_cons]
  | p :: l, k + 2 => by rw [mxdrop, List.length_cons, mxdrop_len l (k + 1), List.length_cons]
theorem mxLR.drop {G : mxG} {ls ls' : Array Slot} {nL k : Nat} {loc : mxL} {v' : Value} (h : mxLR G ls nL loc) (hF : gF G = .null ∨ ∃ a, gF G = .ref a)
    (h' : lv_has ls' nL ((k, v') :: (mxlv G 0 loc).filter (fun q => !(q.1 == k) && !(q.1 + 1 == k && q.2.category == 2)))) : mxLR G ls' nL (mxdrop loc k) := by
  refine ⟨h'.1, h'.2.1, by rw [mxdrop_len]; exact h.2.2.1, fun j w hj => ?_⟩
  obtain ⟨a, b, c⟩ := mxat_drop loc k j w hj
  refine h'.2.2 (j, mxtr G w) (List.mem_cons_of_mem _ (List.mem_filter.mpr ⟨(mxlv_mem G loc 0 _).mpr ⟨j, w, b, by rw [Nat.zero_add]⟩, ?_⟩))
  simp only [mxtr_cat G hF]
  simp only [Bool.and_eq_true, Bool.not_eq_true', beq_eq_false_iff_ne, ne_eq, Bool.and_eq_false_iff]
  refine ⟨a, ?_⟩
  by_cases q : j + 1 = k
  · exact Or.inr (fun z => c ⟨q, z⟩)
  · exact Or.inl q
/-! the locals at an entry -/
theorem mxargs_len (G : mxG) (hF : gF G = .null ∨ ∃ a, gF G = .ref a) : ∀ as : List Value, (lg_sl (as.map (mxtr G))).length = (mxargs as).length
  | [] => rfl
  | v :: l => by
    have ih := mxargs_len G hF l
    simp only [lg_sl, List.map_cons, List.flatMap_cons, mxtr_cat G hF, List.length_append, mxargs] at ih ⊢
    by_cases h : v.category = 2
    · simp only [h, if_true, List.length_cons, List.length_nil]; omega
    · simp only [h, if_false, List.length_cons, List.length_nil]; omega
theorem mxat_args (G : mxG) (hF : gF G = .null ∨ ∃ a, gF G = .ref a) : ∀ (as : List Value) (n i j : Nat) (w : Value), mxat (mxargs as ++ List.replicate n none) j = some w → (i + j, mxtr G w) ∈ lv_args i (as.map (mxtr G))
  | [], n, i, j, w, h => by
    exfalso
    simp only [mxargs, List.nil_append] at h
    induction n generalizing j with
    | zero => simp [mxat] at h
    | succ n ih =>
      rw [List.replicate_succ] at h
      cases j with
      | zero => simp [mxat] at h
      | succ j => exact ih j h
  | v :: l, n, i, j, w, h => by
    simp only [mxargs, List.map_cons, lv_args, mxtr_cat G hF] at h ⊢
    by_cases hc : v.category = 2
    · rw [if_pos hc] at h ⊢
      match j with
      | 0 => simp only [List.cons_append, mxat] at h; cases h; exact List.mem_cons_self
      | 1 => simp [mxat] at h
      | j + 2 =>
        have := mxat_args G hF l n (i + 2) j w h
        rw [show i + (j + 2) = i + 2 + j by omega]
        exact List.mem_cons_of_mem _ this
    · rw [if_neg hc] at h ⊢
      match j with
      | 0 => simp only [List.cons_append, mxat] at h; cases h; exact List.mem_cons_self
      | j + 1 =>
        have := mxat_args G hF l n (i + 1) j w h
        rw [show i + (j + 1) = i + 1 + j by omega]
        exact List.mem_cons_of_mem _ this
theorem mxent_LR (G : mxG) (hF : gF G = .null ∨ ∃ a, gF G = .ref a) {y : Nat} {as : List Value} {loc : mxL} (h : mxent y as = some loc) :
    mxLR G ((lg_sl (as.map (mxtr G)) ++ List.replicate (mxml y - (lg_sl (as.map (mxtr G))).length) Slot.unset).toArray) (mxml y) loc := by
  unfold mxent at h
  by_cases hl : (mxargs as).length ≤ mxml y
  · rw [if_pos hl] at h
    cases h
    have he := lv_entry (as.map (mxtr G)) (n := mxml y) (by rw [mxargs_len G hF]; exact hl)
    refine ⟨he.1, he.2.1, ?_, fun i v hi => ?_⟩
    · simp [mxpad]; omega
    · have := mxat_args G hF as _ 0 i v hi
      rw [Nat.zero_add] at this
      exact he.2.2 _ this
  · rw [if_neg hl] at h
    cases h
/-! what holds of the constants, and of the tables but the good words -/
def mxval (G : mxG) : mxCt → Nat → Value
  | .inl f, j => .int (f j)
  | .inr (.inl f), j => .long (f j)
  | .inr (.inr (.inl f)), j => .float (f j)
  | .inr (.inr (.inr (.inl f))), j => .double (f j)
  | .inr (.inr (.inr (.inr f))), j => va_rf ((f j).map (mxad G))
def mxKon (G : mxG) (a : Nat) (e : mxC) (U : State) (H : Heap) : Prop := match e with
  | .inl (t, n, c) => va_T (mxtyp t) (mxgA G a) n (mxval G c) (mxfree G) U H
  | .inr (ci, fs) => ci = 98 ∨ (va_O (mxoc ci) (mxgA G a) (mxfree G) U H ∧ ∀ (k : Nat) (v : Value), fs[k]? = some v → va_OF (mxkf ci k).1 (mxkf ci k).2.1 (mxkf ci k).2.2 (mxtr G v) (mxgA G a) (mxfree G) U H)
def mxNC : List Cond := [.castable "java/lang/IllegalStateException" "java/lang/IllegalStateException", .castable "java/lang/IllegalArgumentException" "java/lang/IllegalArgumentException", .castable "java/lang/IndexOutOfBoundsException" "java/lang/IndexOutOfBoundsException", .declares ⟨"java/lang/RuntimeException", "<init>", "(Ljava/lang/String;)V"⟩, .declares ⟨"java/lang/Exception", "<init>", "(Ljava/lang/String;)V"⟩, .declares ⟨"java/lang/Throwable", "<init>", "(Ljava/lang/String;)V"⟩]
def mxKX (G : mxG) (U : State) (H : Heap) : Prop :=
  va_K (gD G) mxcl (mxtys G) U ∧ (∀ w ∈ mxNF, va_Nw w U) ∧ (∀ w ∈ mxNM, va_Nw w U) ∧ (∀ w ∈ mxNC, va_Nw w U) ∧
  (va_AO "RoofPigeons$Kind" U ∧ va_AO "RoofPigeons$Order" U) ∧ (∀ q ∈ mxMS, ∃ sa, vk_R q.1 q.2.1 q.2.2 sa U) ∧ vk_R mxLS.1 mxLS.2.1 mxLS.2.2 (mxgA G 130) U ∧
  (∀ z ∈ mxZS, va_Z z.1 z.2.1 z.2.2.1 (mxtr G z.2.2.2) (mxfree G) U H) ∧ (∀ a, a < 1000 → mxKon G a (mxkon (gL G) (gX G) a) U H) ∧
  (∀ i j, i < 47 → j < 47 → mxgA G i = mxgA G j → i = j) ∧ (vx_Zq Bundle.tN "UNASSIGNED_STACK" Bundle.steD (mxfree G) U H ∧ vx_Zq Bundle.tN "SUPPRESSED_SENTINEL" Bundle.listD (mxfree G) U H) ∧
  (va_Nc "java/lang/IllegalStateException" "java/lang/IndexOutOfBoundsException" U ∧ va_Nc "java/lang/IllegalArgumentException" "java/lang/IndexOutOfBoundsException" U) ∧ (gF G = .null ∨ ∃ a, gF G = .ref a)
theorem mxKon.go {G : mxG} {a : Nat} {e : mxC} {s U : State} {H H1 : Heap} (hvm : s.vm.Alike U.vm) (hq : ∀ q : Nat, q < H.size → ¬ mxfree G q → H1[q]? = H[q]?) (h : mxKon G a e s H) : mxKon G a e U H1 := by
  match e, h with
  | .inl (t, n, c), h => exact va_T.moved hvm (va_T.kept h hq)
  | .inr (ci, fs), h => exact h.imp id (fun h => ⟨va_O.moved hvm (h.1.kept hq), fun k v hk => va_OF.moved hvm ((h.2 k v hk).kept hq)⟩)
theorem mxKX.go {G : mxG} {s U : State} {H H1 : Heap} (hW : s.WarmedH U.vm) (hq : ∀ q : Nat, q < H.size → ¬ mxfree G q → H1[q]? = H[q]?) (h : mxKX G s H) : mxKX G U H1 := by
  obtain ⟨h1, h2, h3, h4, h5, h6, h7, h8, h9, h10, h11, h12, h13⟩ := h
  refine ⟨va_K.moved hW.alike h1, fun w hw => ?_, fun w hw => ?_, fun w hw => ?_, ⟨va_AO.moved hW.alike h5.1, va_AO.moved hW.alike h5.2⟩, fun q hq2 => ?_, vk_R.warm hW h7,
    fun z hz => va_Z.moved hW.alike ((h8 z hz).kept hq), fun a ha => (h9 a ha).go hW.alike hq, h10, ⟨vx_Zq.moved hW.alike (h11.1.kept hq), vx_Zq.moved hW.alike (h11.2.kept hq)⟩, ⟨va_Nc.moved hW.alike h12.1, va_Nc.moved hW.alike h12.2⟩, h13⟩
  · have hf := (List.mem_filter.mp hw).2
    have h9 := h2 w hw
    cases w <;> first | (cases hf; done) | exact va_Nw.warmF hW h9
  · have hf := (List.mem_filter.mp hw).2
    have h9 := h3 w hw
    cases w <;> first | (cases hf; done) | exact va_Nw.warmM hW h9
  · have h9 := h4 w hw
    simp only [mxNC, List.mem_cons, List.not_mem_nil, or_false] at hw
    rcases hw with rfl | rfl | rfl | rfl | rfl | rfl <;> first | exact va_Nw.warmC hW h9 | exact va_Nw.warmD hW h9
  · obtain ⟨sa, hsa⟩ := h6 q hq2
    exact ⟨sa, vk_R.warm hW hsa⟩

