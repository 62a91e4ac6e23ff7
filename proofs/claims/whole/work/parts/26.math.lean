/-! ===== mathematics: the class's ways and the reference's come to the same ===== -/
theorem x2_toInt (a b : Int32) : (mxX2 a b).toInt = max a.toInt b.toInt := by
  unfold mxX2
  split
  · rename_i h
    have := Int32.lt_iff_toInt_lt.mp h
    omega
  · rename_i h
    have := Int32.le_iff_toInt_le.mp (Int32.not_lt.mp h)
    omega
theorem m2_toInt (a b : Int32) : (mxM2 a b).toInt = min a.toInt b.toInt := by
  unfold mxM2
  split
  · rename_i h
    have := Int32.lt_iff_toInt_lt.mp h
    omega
  · rename_i h
    have := Int32.le_iff_toInt_le.mp (Int32.not_lt.mp h)
    omega
theorem x2_comm (a b : Int32) : mxX2 a b = mxX2 b a := by
  apply Int32.toInt_inj.mp
  rw [x2_toInt, x2_toInt]
  omega
theorem m2_comm (a b : Int32) : mxM2 a b = mxM2 b a := by
  apply Int32.toInt_inj.mp
  rw [m2_toInt, m2_toInt]
  omega
theorem x2_assoc (a b c : Int32) : mxX2 (mxX2 a b) c = mxX2 a (mxX2 b c) := by
  apply Int32.toInt_inj.mp
  simp only [x2_toInt]
  omega
theorem mL_x2 (h : Nat → Int32) (k : Nat) : mL h (k + 1) = mxX2 (mL h k) (h k) := by
  apply Int32.toInt_inj.mp
  rw [mL, x2_toInt]
  split
  · rename_i q
    have := Int32.le_iff_toInt_le.mp q
    omega
  · rename_i q
    have := Int32.lt_iff_toInt_lt.mp (Int32.not_le.mp q)
    omega
theorem mR_x2 (h : Nat → Int32) (n k : Nat) : mR h n (k + 1) = mxX2 (mR h n k) (h (n - (k + 1))) := by
  apply Int32.toInt_inj.mp
  rw [mR, x2_toInt]
  split
  · rename_i q
    have := Int32.le_iff_toInt_le.mp q
    omega
  · rename_i q
    have := Int32.lt_iff_toInt_lt.mp (Int32.not_le.mp q)
    omega
/-- the greatest going left from j, with what is there already -/
def hbL (h : Nat → Int32) : Nat → Int32 → Int32
  | 0, a => a
  | j + 1, a => hbL h j (mxX2 a (h j))
theorem hbL_mL (h : Nat → Int32) : ∀ (j : Nat) (a : Int32), -1 ≤ a → hbL h j a = mxX2 a (mL h j)
  | 0, a, ha => by
    apply Int32.toInt_inj.mp
    rw [hbL, mL, x2_toInt]
    have := Int32.le_iff_toInt_le.mp ha
    omega
  | j + 1, a, ha => by
    have h2 : (-1 : Int32) ≤ mxX2 a (h j) := by
      apply Int32.le_iff_toInt_le.mpr
      have := Int32.le_iff_toInt_le.mp ha
      rw [x2_toInt]
      omega
    rw [hbL, hbL_mL h j _ h2, mL_x2, x2_assoc, x2_comm (h j)]
/-- the greatest going right from k, m towers, with what is there already -/
def hbR (h : Nat → Int32) : Nat → Nat → Int32 → Int32
  | 0, _, a => a
  | m + 1, k, a => hbR h m (k + 1) (mxX2 a (h k))
theorem hbR_x2 (h : Nat → Int32) : ∀ (m k : Nat) (a b : Int32), hbR h m k (mxX2 a b) = mxX2 a (hbR h m k b)
  | 0, _, _, _ => rfl
  | m + 1, k, a, b => by rw [hbR, hbR, x2_assoc, hbR_x2 h m (k + 1)]
theorem hbR_mR (h : Nat → Int32) (n : Nat) : ∀ (m k : Nat), k + m = n → hbR h m k (-1) = mR h n m
  | 0, k, _ => rfl
  | m + 1, k, hk => by
    rw [hbR, mR_x2, show n - (m + 1) = k by omega, x2_comm, hbR_x2, hbR_mR h n m (k + 1) (by omega), x2_comm]
theorem negge : (-1 : Int32) ≤ -1 := by decide
/-- sums from the left -/
def suS (f : Nat → Int32) : Nat → Int32
  | 0 => nI 0
  | k + 1 => suS f k + f k
theorem raS_su (h : Nat → Int32) (n : Nat) : ∀ m, m ≤ n → raS h n m + suS (waS h n) (n - m) = suS (waS h n) n
  | 0, _ => by
    rw [raS]
    show (0 : Int32) + _ = _
    simp
  | m + 1, hm => by
    have ih := raS_su h n m (by omega)
    rw [raS, ← ih, show n - m = (n - (m + 1)) + 1 by omega, suS, Int32.add_assoc, Int32.add_comm (waS h n (n - (m + 1)))]
theorem raS_all (h : Nat → Int32) (n : Nat) : raS h n n = suS (waS h n) n := by
  have := raS_su h n n (Nat.le_refl _)
  rw [Nat.sub_self] at this
  rw [← this]
  show _ = _ + (0 : Int32)
  simp
/-- the first taller one going right from k, m steps at most -/
def rtO (h : Nat → Int32) (v : Int32) : Nat → Nat → Option Nat
  | 0, _ => none
  | m + 1, k => if v < h k then some k else rtO h v m (k + 1)
theorem rfN_rtO (h : Nat → Int32) (v : Int32) : ∀ m k, (if rfN h v m k < k + m then nI (rfN h v m k) else (-1 : Int32)) = encO (rtO h v m k)
  | 0, k => by
    rw [rfN, rtO, if_neg (by omega)]
    rfl
  | m + 1, k => by
    rw [rfN, rtO]
    by_cases q : v < h k
    · rw [if_pos q, if_pos q, if_pos (by omega)]
      rfl
    · rw [if_neg q, if_neg q, show k + (m + 1) = k + 1 + m by omega]
      exact rfN_rtO h v m (k + 1)
theorem trS_rtO (h : Nat → Int32) (n t : Nat) (ht : t < n) : trS h n t = encO (rtO h (h t) (n - (t + 1)) (t + 1)) := by
  have := rfN_rtO h (h t) (n - (t + 1)) (t + 1)
  rw [show t + 1 + (n - (t + 1)) = n by omega] at this
  exact this
theorem lfO_lt (h : Nat → Int32) (v : Int32) : ∀ j l, lfO h v j = some l → l < j
  | 0, l, q => by cases q
  | j + 1, l, q => by
    rw [lfO] at q
    split at q
    · have := Option.some.inj q
      omega
    · have := lfO_lt h v j l q
      omega
theorem rtO_in (h : Nat → Int32) (v : Int32) : ∀ m k e, rtO h v m k = some e → k ≤ e ∧ e < k + m
  | 0, k, e, q => by cases q
  | m + 1, k, e, q => by
    rw [rtO] at q
    split at q
    · have := Option.some.inj q
      omega
    · have := rtO_in h v m (k + 1) e q
      omega
/-- heard, as the reference says it -/
def hmS (h : Nat → Int32) (n j t : Nat) : Bool := if j < t then (match rtO h (h j) (n - (j + 1)) (j + 1) with
    | none => true
    | some e => decide (t ≤ e)) else (match lfO h (h j) j with
    | none => true
    | some l => decide (l ≤ t))
theorem hrS_hmS (h : Nat → Int32) (n j t : Nat) (hn : n ≤ 16) (hj : j < n) (ht : t < n) : hrS (tlS h) (trS h n) j (nI t) = if hmS h n j t = true then nI 1 else nI 0 := by
  rw [hrS, trS_rtO h n j hj, tlS, hmS]
  have ne1 : ((-1 : Int32) < 0) := by decide
  have np : ∀ k : Nat, k < 2 ^ 31 → ¬ nI k < -1 := by
    intro k hk q
    have q2 := Int32.lt_iff_toInt_lt.mp q
    rw [nI_toInt hk] at q2
    have : (-1 : Int32).toInt = -1 := by decide
    omega
  cases hl : lfO h (h j) j with
  | none =>
    have a1 : ¬ nI t < encO none := np t (by omega)
    rw [if_neg a1]
    cases hr : rtO h (h j) (n - (j + 1)) (j + 1) with
    | none =>
      rw [if_pos (show encO none < 0 from ne1)]
      by_cases q : j < t <;> simp [q]
    | some e =>
      have he := rtO_in _ _ _ _ _ hr
      have a2 : ¬ encO (some e) < 0 := nI_pos (by omega)
      rw [if_neg a2]
      by_cases q : j < t
      · simp only [q, if_true]
        by_cases z : t ≤ e
        · rw [if_neg (show ¬ encO (some e) < nI t from nI_nlt z (by omega))]
          simp [z]
        · rw [if_pos (show encO (some e) < nI t from nI_lt (by omega) (by omega))]
          simp [z]
      · rw [if_neg (show ¬ encO (some e) < nI t from nI_nlt (by omega) (by omega))]
        simp [q]
  | some l =>
    have hl2 := lfO_lt _ _ _ _ hl
    by_cases q : j < t
    · have a1 : ¬ nI t < encO (some l) := nI_nlt (by omega) (by omega)
      rw [if_neg a1]
      cases hr : rtO h (h j) (n - (j + 1)) (j + 1) with
      | none =>
        rw [if_pos (show encO none < 0 from ne1)]
        simp [q]
      | some e =>
        have he := rtO_in _ _ _ _ _ hr
        have a2 : ¬ encO (some e) < 0 := nI_pos (by omega)
        rw [if_neg a2]
        simp only [q, if_true]
        by_cases z : t ≤ e
        · rw [if_neg (show ¬ encO (some e) < nI t from nI_nlt z (by omega))]
          simp [z]
        · rw [if_pos (show encO (some e) < nI t from nI_lt (by omega) (by omega))]
          simp [z]
    · by_cases z : t < l
      · rw [if_pos (show nI t < encO (some l) from nI_lt z (by omega))]
        have : ¬ l ≤ t := by omega
        simp [q, this]
      · rw [if_neg (show ¬ nI t < encO (some l) from nI_nlt (by omega) (by omega))]
        have z2 : l ≤ t := by omega
        cases hr : rtO h (h j) (n - (j + 1)) (j + 1) with
        | none =>
          rw [if_pos (show encO none < 0 from ne1)]
          simp [q, z2]
        | some e =>
          have he := rtO_in _ _ _ _ _ hr
          rw [if_neg (show ¬ encO (some e) < 0 from nI_pos (by omega)), if_neg (show ¬ encO (some e) < nI t from nI_nlt (by omega) (by omega))]
          simp [q, z2]
theorem de_su (f g : Nat → Int32) (n : Nat) (h0 : g 0 = nI 0) (hs : ∀ m, m < n → g (m + 1) = g m + f (n - (m + 1))) : g n = suS f n := by
  have main : ∀ m, m ≤ n → g m + suS f (n - m) = suS f n := by
    intro m
    induction m with
    | zero =>
      intro _
      rw [h0]
      show (0 : Int32) + _ = _
      simp
    | succ m ih =>
      intro hm
      have := ih (by omega)
      rw [hs m (by omega), ← this, show n - m = (n - (m + 1)) + 1 by omega, suS, Int32.add_assoc, Int32.add_comm (f (n - (m + 1)))]
  have := main n (Nat.le_refl _)
  rw [Nat.sub_self] at this
  rw [← this]
  show _ = _ + (0 : Int32)
  simp
theorem su_up (f g : Nat → Int32) (h0 : g 0 = nI 0) (hs : ∀ m, g (m + 1) = g m + f m) : ∀ n, g n = suS f n
  | 0 => h0
  | n + 1 => by rw [hs, suS, su_up f g h0 hs n]
theorem ind_add (c : Prop) [Decidable c] (a : Int32) : (if c then a else a + nI 1) = a + (if c then nI 0 else nI 1) := by
  by_cases h : c
  · rw [if_pos h, if_pos h]
    show a = a + 0
    simp
  · rw [if_neg h, if_neg h]
theorem wcS_su (h : Nat → Int32) (n : Nat) : wcS h n n = suS (fun t => if waS h n t ≤ 0 then nI 0 else nI 1) n :=
  de_su _ (wcS h n) n rfl (fun m _ => by rw [wcS, ind_add])
theorem cR_su (h : Nat → Int32) (n : Nat) : cR h n n = suS (fun t => if h t ≤ mR h n (n - (t + 1)) then nI 0 else nI 1) n :=
  de_su _ (cR h n) n rfl (fun m hm => by rw [cR, ind_add, show n - (n - (m + 1) + 1) = m by omega])
theorem cL_su (h : Nat → Int32) (n : Nat) : cL h n = suS (fun t => if h t ≤ mL h t then nI 0 else nI 1) n :=
  su_up _ (cL h) rfl (fun m => by rw [cL, ind_add]) n
