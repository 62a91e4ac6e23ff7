/-! ===== the reference's code: its words, its open names ===== -/
def wv (c : Cx) (w : Nat × Nat) : Int32 := if w.1 = 0 then nI (cdR w.2) else if w.1 = 1 then xnum c w.2 else nI w.2
def FC (c : Cx) (ws : List (Nat × Nat)) (F : MR) : Prop := rSz F = ws.length ∧ (∀ j w, ws[j]? = some w → rCo F j = wv c w) ∧ (∀ k, k < rOp F → ∃ j x, ws[j]? = some (2, x) ∧ rOn F k = nI j) ∧ ∀ j x, ws[j]? = some (2, x) → ∃ k, k < rOp F ∧ rOn F k = nI j
theorem ge_c {α : Type} {ws : List α} {w x : α} {j : Nat} (h : (ws ++ [w])[j]? = some x) : (ws[j]? = some x ∧ j < ws.length) ∨ (j = ws.length ∧ x = w) := by
  by_cases q : j < ws.length
  · rw [List.getElem?_append_left q] at h
    exact .inl ⟨h, q⟩
  · rw [List.getElem?_append_right (by omega)] at h
    by_cases r : j = ws.length
    · subst r
      rw [Nat.sub_self] at h
      have h : some w = some x := h
      exact .inr ⟨rfl, (Option.some.inj h).symm⟩
    · have : [w][j - ws.length]? = none := List.getElem?_eq_none (by show 1 ≤ j - ws.length; omega)
      rw [this] at h
      exact Option.noConfusion rfl (heq_of_eq h)
theorem ge_l {α : Type} {ws : List α} {w x : α} {j : Nat} (h : ws[j]? = some x) : (ws ++ [w])[j]? = some x ∧ j < ws.length := by
  have hj : j < ws.length := (List.getElem?_eq_some_iff.mp h).1
  exact ⟨by rw [List.getElem?_append_left hj]; exact h, hj⟩
theorem ge_e {α : Type} {ws : List α} {w : α} : (ws ++ [w])[ws.length]? = some w := by
  rw [List.getElem?_append_right (Nat.le_refl _), Nat.sub_self]
  rfl
theorem FC_w {c : Cx} {ws : List (Nat × Nat)} {F : MR} {w : Nat × Nat} (h : FC c ws F) (hw : ¬ w.1 = 2) : FC c (ws ++ [w]) (uWord (wv c w) F) := by
  obtain ⟨h1, h2, h3, h4⟩ := h
  refine ⟨by show rSz F + 1 = _; rw [h1, List.length_append]; rfl, fun j x hx => ?_, fun k hk => ?_, fun j x hx => ?_⟩
  · show va_up (rCo F) (rSz F) (wv c w) j = _
    rcases ge_c hx with ⟨y, z⟩ | ⟨y, z⟩
    · rw [va_up_ne _ _ (by omega)]
      exact h2 j x y
    · rw [y, ← h1, va_up_self, z]
  · obtain ⟨j, x, y, z⟩ := h3 k hk
    exact ⟨j, x, (ge_l y).1, z⟩
  · rcases ge_c hx with ⟨y, z⟩ | ⟨y, z⟩
    · exact h4 j x y
    · rw [← z] at hw
      exact absurd rfl hw
theorem FC_n {c : Cx} {ws : List (Nat × Nat)} {F : MR} (h : FC c ws F) : FC c (ws ++ [(2, rTk F)]) (uWord (nI (rTk F)) (uOpen F)) := by
  obtain ⟨h1, h2, h3, h4⟩ := h
  refine ⟨by show rSz F + 1 = _; rw [h1, List.length_append]; rfl, fun j x hx => ?_, fun k hk => ?_, fun j x hx => ?_⟩
  · show va_up (rCo F) (rSz F) (nI (rTk F)) j = _
    rcases ge_c hx with ⟨y, z⟩ | ⟨y, z⟩
    · rw [va_up_ne _ _ (by omega)]
      exact h2 j x y
    · rw [y, ← h1, va_up_self, z]
      rfl
  · have hk : k < rOp F + 1 := hk
    show ∃ j x, _ ∧ va_up (rOn F) (rOp F) (nI (rSz F)) k = nI j
    by_cases q : k = rOp F
    · rw [q, va_up_self]
      exact ⟨ws.length, rTk F, ge_e, by rw [h1]⟩
    · rw [va_up_ne _ _ q]
      obtain ⟨j, x, y, z⟩ := h3 k (by omega)
      exact ⟨j, x, (ge_l y).1, z⟩
  · show ∃ k, k < rOp F + 1 ∧ va_up (rOn F) (rOp F) (nI (rSz F)) k = nI j
    rcases ge_c hx with ⟨y, z⟩ | ⟨y, z⟩
    · obtain ⟨k, k1, k2⟩ := h4 j x y
      exact ⟨k, by omega, by rw [va_up_ne _ _ (by omega)]; exact k2⟩
    · exact ⟨rOp F, by omega, by rw [va_up_self, y, h1]⟩
theorem FC_s {c : Cx} {ws : List (Nat × Nat)} {F F' : MR} (h : FC c ws F) (h1 : rSz F' = rSz F ∧ rCo F' = rCo F ∧ rOp F' = rOp F ∧ rOn F' = rOn F) : FC c ws F' := by
  obtain ⟨e1, e2, e3, e4⟩ := h1
  unfold FC
  rw [e1, e2, e3, e4]
  exact h
theorem FC_run (c : Cx) : ∀ (t : List PA) (ws : List (Nat × Nat)) (i : Nat) (F : MR), FC c ws F → rTk F = i → FC c (ws ++ wdT i t) (runR (xnum c) F t)
  | [], ws, i, F, h, _ => by
    rw [wdT, List.append_nil]
    exact h
  | a :: t, ws, i, F, h, hi => by
    have hk : rTk (stepR (xnum c) F a) = rTk F + if a.1 = 0 then 1 else 0 := tk_step _ _ _
    have er : runR (xnum c) F (a :: t) = runR (xnum c) (stepR (xnum c) F a) t := rfl
    rw [er, wdT]
    by_cases h2 : a.1 = 2
    · rw [if_pos h2]
      rw [if_neg (by omega)] at hk
      have e : stepR (xnum c) F a = uWord (wv c (0, a.2.1)) F := by
        obtain ⟨k, x, y, z⟩ := a
        have h2 : k = 2 := h2
        subst h2
        rfl
      have := FC_run c t (ws ++ [(0, a.2.1)]) i (stepR (xnum c) F a) (by rw [e]; exact FC_w h (show ¬ 0 = 2 by decide)) (by omega)
      rw [List.append_assoc] at this
      exact this
    · rw [if_neg h2]
      by_cases h3 : a.1 = 3
      · rw [if_pos h3]
        rw [if_neg (by omega)] at hk
        have e : stepR (xnum c) F a = uWord (wv c (1, i)) F := by
          obtain ⟨k, x, y, z⟩ := a
          have h3 : k = 3 := h3
          subst h3
          show uWord (xnum c (rTk F)) F = uWord (wv c (1, i)) F
          rw [hi]
          rfl
        have := FC_run c t (ws ++ [(1, i)]) i (stepR (xnum c) F a) (by rw [e]; exact FC_w h (show ¬ 1 = 2 by decide)) (by omega)
        rw [List.append_assoc] at this
        exact this
      · rw [if_neg h3]
        by_cases h4 : a.1 = 4
        · rw [if_pos h4]
          rw [if_neg (by omega)] at hk
          have e : stepR (xnum c) F a = uWord (nI (rTk F)) (uOpen F) := by
            obtain ⟨k, x, y, z⟩ := a
            have h4 : k = 4 := h4
            subst h4
            rfl
          have := FC_run c t (ws ++ [(2, i)]) i (stepR (xnum c) F a) (by rw [e]; have := FC_n h; rw [hi] at this ⊢; exact this) (by omega)
          rw [List.append_assoc] at this
          exact this
        · rw [if_neg h4]
          have hs : FC c ws (stepR (xnum c) F a) := by
            refine FC_s h ?_
            obtain ⟨k, x, y, z⟩ := a
            have h2 : ¬ k = 2 := h2
            have h3 : ¬ k = 3 := h3
            have h4 : ¬ k = 4 := h4
            unfold stepR
            dsimp only
            split <;> first | exact ⟨rfl, rfl, rfl, rfl⟩ | omega
          by_cases h0 : a.1 = 0
          · rw [if_pos h0] at hk ⊢
            exact FC_run c t ws (i + 1) _ hs (by omega)
          · rw [if_neg h0] at hk ⊢
            exact FC_run c t ws i _ hs (by omega)
/-! names come into the code -/
theorem op_f (o c : Nat → Nat) : ∀ (m k : Nat) (R : MR), (rMe (opN o c m k R) = rMe R ∧ rSz (opN o c m k R) = rSz R) ∧ (rTw (opN o c m k R) = rTw R ∧ rPg (opN o c m k R) = rPg R ∧ rOd (opN o c m k R) = rOd R) ∧ (rHe (opN o c m k R) = rHe R ∧ rAt (opN o c m k R) = rAt R ∧ rLo (opN o c m k R) = rLo R ∧ rDo (opN o c m k R) = rDo R ∧ rTo (opN o c m k R) = rTo R) ∧ (rRi (opN o c m k R) = rRi R ∧ rSu (opN o c m k R) = rSu R ∧ rTe (opN o c m k R) = rTe R ∧ rTn (opN o c m k R) = rTn R)
  | 0, _, _ => ⟨⟨rfl, rfl⟩, ⟨rfl, rfl, rfl⟩, ⟨rfl, rfl, rfl, rfl, rfl⟩, ⟨rfl, rfl, rfl, rfl⟩⟩
  | m + 1, k, R => op_f o c m (k + 1) (uFix (o k) (c k) R)
theorem op_o (o c : Nat → Nat) {j : Nat} : ∀ (m k : Nat) (R : MR), (∀ x, k ≤ x → x < k + m → ¬ o x = j) → rCo (opN o c m k R) j = rCo R j
  | 0, _, _, _ => rfl
  | m + 1, k, R, h => by
    rw [opN, op_o o c m (k + 1) _ (fun x h1 h2 => h x (by omega) (by omega))]
    exact va_up_ne _ _ (fun z => h k (Nat.le_refl _) (by omega) z.symm)
theorem op_i (o c : Nat → Nat) {y : Nat} : ∀ (m k : Nat) (R : MR), k ≤ y → y < k + m → (∀ x, y < x → x < k + m → ¬ o x = o y) → rCo (opN o c m k R) (o y) = rMe R (c y)
  | 0, _, _, h1, h2, _ => absurd h2 (by omega)
  | m + 1, k, R, h1, h2, h => by
    rw [opN]
    by_cases q : y = k
    · subst q
      rw [op_o o c m (y + 1) _ (fun x h1 h2 => h x (by omega) (by omega))]
      exact va_up_self _ _ _
    · exact op_i o c m (k + 1) (uFix (o k) (c k) R) (by omega) (by omega) (fun x h1 h2 => h x h1 (by omega))
def wF (c : Cx) (R : MR) (w : Nat × Nat) : Int32 := if w.1 = 2 then rMe R w.2 else wv c w
/-- the code at the end -/
theorem co_fin {c : Cx} {ws : List (Nat × Nat)} {F R : MR} {o cc : Nat → Nat} (h : FC c ws F) (hs : rOn R = rOn F ∧ rOp R = rOp F ∧ rCo R = rCo F) (h8 : ws.length ≤ 800) (hw : ∀ (j x : Nat), ws[j]? = some (2, x) → x ≤ 400) (hon : onI F o cc) : ∀ (j : Nat) (w : Nat × Nat), ws[j]? = some w → rCo (opN (oF R) (cF R) (rOp R) 0 R) j = wF c R w := by
  obtain ⟨h1, h2, h3, h4⟩ := h
  obtain ⟨s1, s2, s3⟩ := hs
  have hlen : ∀ (j : Nat) (w : Nat × Nat), ws[j]? = some w → j < ws.length := fun j w hw => (List.getElem?_eq_some_iff.mp hw).1
  have hoF : ∀ k j x, k < rOp F → ws[j]? = some (2, x) → rOn F k = nI j → oF R k = j ∧ cF R k = x := by
    intro k j x hk hx hj
    have e1 : oF R k = j := by
      unfold oF
      rw [s1, hj]
      exact nI_clamp (by have := hlen j _ hx; omega)
    refine ⟨e1, ?_⟩
    unfold cF
    rw [e1, s3, h2 j _ hx]
    exact nI_clamp (by have := hw j x hx; omega)
  intro j w hjw
  obtain ⟨g, x⟩ := w
  by_cases q : g = 2
  · subst q
    obtain ⟨k, k1, k2⟩ := h4 j x hjw
    obtain ⟨e1, e2⟩ := hoF k j x k1 hjw k2
    have := op_i (oF R) (cF R) (y := k) (rOp R) 0 R (Nat.zero_le _) (by rw [s2]; omega) (fun z z1 z2 z3 => by
      rw [s2] at z2
      obtain ⟨j', x', y1, y2⟩ := h3 z (by omega)
      obtain ⟨f1, f2⟩ := hoF z j' x' (by omega) y1 y2
      have o1 := (hon.1 k k1).1
      have o2 := (hon.1 z (by omega)).1
      have o3 := hon.2 k z z1 (by omega)
      have b1 := (hon.1 k k1).2.1
      have b2 := (hon.1 z (by omega)).2.1
      have l1 := hlen j _ hjw
      have l2 := hlen j' _ y1
      have m1 : o k = j := (nI_eq (by omega) (by omega)).mp (o1.symm.trans k2)
      have m2 : o z = j' := (nI_eq (by omega) (by omega)).mp (o2.symm.trans y2)
      rw [e1, f1] at z3
      omega)
    rw [e1, e2] at this
    rw [this]
    rfl
  · rw [op_o (oF R) (cF R) (rOp R) 0 R (fun z z1 z2 z3 => ?_), s3, h2 j _ hjw]
    · unfold wF
      rw [if_neg q]
    · rw [s2] at z2
      obtain ⟨j', x', y1, y2⟩ := h3 z (by omega)
      obtain ⟨f1, f2⟩ := hoF z j' x' (by omega) y1 y2
      have e : j' = j := f1.symm.trans z3
      rw [e, hjw] at y1
      exact q (congrArg Prod.fst (Option.some.inj y1))
