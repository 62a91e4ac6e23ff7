/-! ===== the roles of a trace ===== -/
/-- (role at the place before, role at this place) along a trace -/
def evC : Nat → Nat → List PA → Nat → Nat → Prop
  | q, b, [], q', b' => q = q' ∧ b = b'
  | q, b, a :: t, q', b' =>
    if a.1 = 1 then b = 0 ∧ a.2.1 ≠ 0 ∧ a.2.1 ≤ 7 ∧ (a.2.1 = 1 → 5 ≤ skN t) ∧ (a.2.1 = 3 → q = 2) ∧ evC q a.2.1 t q' b'
    else if a.1 = 0 then evC b 0 t q' b' else evC q b t q' b'
theorem evC_app : ∀ (s t : List PA) (q b q1 b1 q2 b2 : Nat), evC q b s q1 b1 → evC q1 b1 t q2 b2 → evC q b (s ++ t) q2 b2
  | [], t, q, b, q1, b1, q2, b2, h1, h2 => by
    obtain ⟨rfl, rfl⟩ := h1
    exact h2
  | a :: s, t, q, b, q1, b1, q2, b2, h1, h2 => by
    show evC q b (a :: (s ++ t)) q2 b2
    rw [evC] at h1 ⊢
    by_cases p1 : a.1 = 1
    · rw [if_pos p1] at h1 ⊢
      obtain ⟨x1, x2, x3, x4, x5, x6⟩ := h1
      refine ⟨x1, x2, x3, fun z => ?_, x5, evC_app s t _ _ _ _ _ _ x6 h2⟩
      rw [skN_app]
      have := x4 z
      omega
    · rw [if_neg p1] at h1 ⊢
      by_cases p0 : a.1 = 0
      · rw [if_pos p0] at h1 ⊢
        exact evC_app s t _ _ _ _ _ _ h1 h2
      · rw [if_neg p0] at h1 ⊢
        exact evC_app s t _ _ _ _ _ _ h1 h2
/-- the role at a place, b being that at the first -/
def zfT : Nat → Nat → List PA → Nat → Nat
  | i, b, [], p => if p = i then b else 0
  | i, b, a :: t, p => if a.1 = 1 then zfT i a.2.1 t p else if a.1 = 0 then (if p = i then b else zfT (i + 1) 0 t p) else zfT i b t p
theorem zfT_ok : ∀ (t : List PA) (i q b q' b' : Nat), evC q b t q' b' → b ≤ 7 → (b = 1 → 5 ≤ skN t) → (b = 3 → q = 2) → ∀ p, i ≤ p → p < i + skN t → zfT i b t p ≤ 7 ∧ (zfT i b t p = 1 → p + 4 < i + skN t) ∧ (zfT i b t p = 3 → (p = i → q = 2) ∧ (i < p → zfT i b t (p - 1) = 2))
  | [], i, q, b, q', b', _, _, _, _, p, h1, h2 => by
    have : p < i + 0 := h2
    omega
  | a :: t, i, q, b, q', b', h, hb, hb1, hb3, p, h1, h2 => by
    have hs : skN (a :: t) = (if a.1 = 0 then 1 else 0) + skN t := rfl
    rw [evC] at h
    by_cases p1 : a.1 = 1
    · rw [if_pos p1] at h
      obtain ⟨x1, x2, x3, x4, x5, x6⟩ := h
      have p0 : ¬ a.1 = 0 := by omega
      rw [if_neg p0] at hs
      have e : ∀ p, zfT i b (a :: t) p = zfT i a.2.1 t p := fun p => by rw [zfT, if_pos p1]
      rw [e, e, hs, Nat.zero_add]
      exact zfT_ok t i q a.2.1 q' b' x6 x3 x4 x5 p h1 (by omega)
    · rw [if_neg p1] at h
      by_cases p0 : a.1 = 0
      · rw [if_pos p0] at h hs
        have e : ∀ p, zfT i b (a :: t) p = if p = i then b else zfT (i + 1) 0 t p := fun p => by rw [zfT, if_neg p1, if_pos p0]
        rw [e, e]
        by_cases pi : p = i
        · rw [if_pos pi]
          refine ⟨hb, fun z => ?_, fun z => ⟨fun _ => hb3 z, fun y => by omega⟩⟩
          have := hb1 z
          omega
        · rw [if_neg pi]
          obtain ⟨y1, y2, y3⟩ := zfT_ok t (i + 1) b 0 q' b' h (by omega) (by omega) (by omega) p (by omega) (by omega)
          refine ⟨y1, fun z => by have := y2 z; omega, fun z => ⟨fun y => absurd y pi, fun y => ?_⟩⟩
          obtain ⟨z1, z2⟩ := y3 z
          by_cases pj : p = i + 1
          · subst pj
            rw [Nat.add_sub_cancel, if_pos rfl]
            exact z1 rfl
          · rw [if_neg (by omega)]
            exact z2 (by omega)
      · rw [if_neg p0] at h hs
        have e : ∀ p, zfT i b (a :: t) p = zfT i b t p := fun p => by rw [zfT, if_neg p1, if_neg p0]
        rw [e, e, hs, Nat.zero_add]
        rw [hs, Nat.zero_add] at hb1
        exact zfT_ok t i q b q' b' h hb hb1 hb3 p h1 (by omega)
theorem ro_step (num : Nat → Int32) (a : PA) (R : MR) : rRo (stepR num R a) = if a.1 = 1 then va_up (rRo R) (rTk R) (nI a.2.1) else rRo R := by
  obtain ⟨k, x, y, z⟩ := a
  unfold stepR
  dsimp only
  split <;> first | rfl | (split <;> first | rfl | simp_all)
theorem zfT_ro (num : Nat → Int32) : ∀ (t : List PA) (i b : Nat) (R : MR), rTk R = i → (∀ p, i ≤ p → p < i + skN t + 1 → rRo R p = nI (if p = i then b else 0)) → (∀ p, p < i → rRo (runR num R t) p = rRo R p) ∧ ∀ p, i ≤ p → p < i + skN t + 1 → rRo (runR num R t) p = nI (zfT i b t p)
  | [], i, b, R, _, h => ⟨fun _ _ => rfl, h⟩
  | a :: t, i, b, R, hi, h => by
    have hs : skN (a :: t) = (if a.1 = 0 then 1 else 0) + skN t := rfl
    have er : runR num R (a :: t) = runR num (stepR num R a) t := rfl
    have hk := tk_step num a R
    have hr := ro_step num a R
    rw [er]
    by_cases p1 : a.1 = 1
    · have p0 : ¬ a.1 = 0 := by omega
      rw [if_neg p0] at hs hk
      rw [if_pos p1] at hr
      obtain ⟨y1, y2⟩ := zfT_ro num t i a.2.1 (stepR num R a) (by omega) (fun p h1 h2 => by
        rw [hr, hi]
        by_cases q : p = i
        · rw [if_pos q, q, va_up_self]
        · rw [if_neg q, va_up_ne _ _ q, h p h1 (by omega), if_neg q])
      refine ⟨fun p hp => ?_, fun p h1 h2 => ?_⟩
      · rw [y1 p hp, hr, hi, va_up_ne _ _ (by omega)]
      · rw [y2 p h1 (by omega), zfT, if_pos p1]
    · rw [if_neg p1] at hr
      by_cases p0 : a.1 = 0
      · rw [if_pos p0] at hs hk
        obtain ⟨y1, y2⟩ := zfT_ro num t (i + 1) 0 (stepR num R a) (by omega) (fun p h1 h2 => by
          rw [hr, h p (by omega) (by omega), if_neg (by omega)]
          split <;> rfl)
        refine ⟨fun p hp => ?_, fun p h1 h2 => ?_⟩
        · rw [y1 p (by omega), hr]
        · rw [zfT, if_neg p1, if_pos p0]
          by_cases q : p = i
          · rw [if_pos q, y1 p (by omega), hr, h p h1 (by omega), if_pos q]
          · rw [if_neg q, y2 p (by omega) (by omega)]
      · rw [if_neg p0] at hs hk
        obtain ⟨y1, y2⟩ := zfT_ro num t i b (stepR num R a) (by omega) (fun p h1 h2 => by rw [hr]; exact h p h1 (by omega))
        refine ⟨fun p hp => ?_, fun p h1 h2 => ?_⟩
        · rw [y1 p hp, hr]
        · rw [y2 p h1 (by omega), zfT, if_neg p1, if_neg p0]
