/-! ===== overlays that do not touch ===== -/
theorem mxov_cm2 (σ : mxS) {p n q m : Nat} (g h : Nat → mxC) (hd : p + n ≤ q ∨ q + m ≤ p) : mxov (mxov σ p n g) q m h = mxov (mxov σ q m h) p n g := by
  refine Prod.ext (funext fun a => ?_) rfl
  show (if q ≤ a ∧ a < q + m then h (a - q) else if p ≤ a ∧ a < p + n then g (a - p) else σ.1 a) = if p ≤ a ∧ a < p + n then g (a - p) else if q ≤ a ∧ a < q + m then h (a - q) else σ.1 a
  by_cases z1 : q ≤ a ∧ a < q + m
  · rw [if_pos z1, if_neg (by omega), if_pos z1]
  · rw [if_neg z1, if_neg z1]
/-- the token rows under the reader's own cells -/
theorem tk_in (σ : mxS) {tk r nm pb : Nat} (kk : Nat → Option Nat) (sa : Nat → Int32) (vs : Nat → Int64) (tv : Value) (ns : Nat → Int64) (fs : List Value) (hs ps ls : Nat → Int32) (oaf : Nat → Option Nat) (od : Nat → Nat × Int32 × Int32 × Int32 × Int32 × Int32) (kf : Nat → Option Nat) (fa sx : Nat → Int32) (tc pc oc sc : Int32) (hp : pb + 24 ≤ tk ∨ tk + 4 ≤ pb) (hr : ¬ (tk ≤ r ∧ r < tk + 4)) (hn : ¬ (tk ≤ nm ∧ nm < tk + 4)) : tkW (pnW (rnW σ r nm ns fs) pb hs ps ls oaf od kf fa sx tc pc oc sc) tk kk sa vs tv = pnW (rnW (tkW σ tk kk sa vs tv) r nm ns fs) pb hs ps ls oaf od kf fa sx tc pc oc sc := by
  unfold pnW rnW
  rw [tk_wo σ tk kk sa vs tv _ hn, tk_wo _ tk kk sa vs tv _ hr]
  exact mxov_cm2 _ _ _ hp
