/-! ===== overlays: an object with its rows, written over a state ===== -/
def mxov (σ : mxS) (p n : Nat) (g : Nat → mxC) : mxS := (fun a => if p ≤ a ∧ a < p + n then g (a - p) else σ.1 a, σ.2)
theorem mxov_in (σ : mxS) (p n : Nat) (g : Nat → mxC) (j : Nat) (h : j < n) : (mxov σ p n g).1 (p + j) = g j := by
  show (if p ≤ p + j ∧ p + j < p + n then g (p + j - p) else σ.1 (p + j)) = g j
  rw [if_pos (by omega), Nat.add_sub_cancel_left]
theorem mxov_out (σ : mxS) (p n : Nat) (g : Nat → mxC) {a : Nat} (h : ¬ (p ≤ a ∧ a < p + n)) : (mxov σ p n g).1 a = σ.1 a := if_neg h
theorem mxov_wr (σ : mxS) (p n : Nat) (g g' : Nat → mxC) (j : Nat) (e : mxC) (h : j < n) (hj : g' j = e) (ho : ∀ i, i < n → i ≠ j → g' i = g i) : mxWr (mxov σ p n g) (p + j) e = mxov σ p n g' := by
  refine Prod.ext (funext fun a => ?_) rfl
  show (if a = p + j then e else if p ≤ a ∧ a < p + n then g (a - p) else σ.1 a) = if p ≤ a ∧ a < p + n then g' (a - p) else σ.1 a
  by_cases q : a = p + j
  · subst q
    rw [if_pos rfl, if_pos (by omega), Nat.add_sub_cancel_left, hj]
  · rw [if_neg q]
    by_cases z : p ≤ a ∧ a < p + n
    · rw [if_pos z, if_pos z, ho _ (by omega) (by omega)]
    · rw [if_neg z, if_neg z]
theorem mxov_wo (σ : mxS) (p n : Nat) (g : Nat → mxC) {a : Nat} (e : mxC) (h : ¬ (p ≤ a ∧ a < p + n)) : mxWr (mxov σ p n g) a e = mxov (mxWr σ a e) p n g := by
  refine Prod.ext (funext fun x => ?_) rfl
  show (if x = a then e else if p ≤ x ∧ x < p + n then g (x - p) else σ.1 x) = if p ≤ x ∧ x < p + n then g (x - p) else (if x = a then e else σ.1 x)
  by_cases q : x = a
  · subst q
    rw [if_pos rfl, if_neg h, if_pos rfl]
  · rw [if_neg q, if_neg q]
theorem mxov_of (σ : mxS) (p n : Nat) (g : Nat → mxC) (h : ∀ j, j < n → σ.1 (p + j) = g j) : mxov σ p n g = σ := by
  refine Prod.ext (funext fun a => ?_) rfl
  show (if p ≤ a ∧ a < p + n then g (a - p) else σ.1 a) = σ.1 a
  by_cases z : p ≤ a ∧ a < p + n
  · rw [if_pos z, ← h _ (by omega), Nat.add_sub_cancel' z.1]
  · rw [if_neg z]
def stG (p : Nat) (hs : Nat → Int32) (ps : Nat → Int32) (dy : Int32) (dn : Int32) (th : Value) : Nat → mxC := fun j => match j with
  | 0 => .inr (9, [.int dy, .int dn, .ref (p + 1), .ref (p + 2), th])
  | 1 => .inl (0, 16, .inl (hs))
  | 2 => .inl (0, 8, .inl (ps))
  | _ => .inr (98, [])
def stW (σ : mxS) (p : Nat) (hs : Nat → Int32) (ps : Nat → Int32) (dy : Int32) (dn : Int32) (th : Value) : mxS := mxov σ p 3 (stG p hs ps dy dn th)
theorem st_n (σ : mxS) (p : Nat) (hs : Nat → Int32) (ps : Nat → Int32) (dy : Int32) (dn : Int32) (th : Value) : (stW σ p hs ps dy dn th).2 = σ.2 := rfl
theorem st_g0 (σ : mxS) (p : Nat) (hs : Nat → Int32) (ps : Nat → Int32) (dy : Int32) (dn : Int32) (th : Value) : (stW σ p hs ps dy dn th).1 p = .inr (9, [.int dy, .int dn, .ref (p + 1), .ref (p + 2), th]) := mxov_in σ p 3 _ 0 (by decide)
theorem st_g1 (σ : mxS) (p : Nat) (hs : Nat → Int32) (ps : Nat → Int32) (dy : Int32) (dn : Int32) (th : Value) : (stW σ p hs ps dy dn th).1 (p + 1) = .inl (0, 16, .inl (hs)) := mxov_in σ p 3 _ 1 (by decide)
theorem st_g2 (σ : mxS) (p : Nat) (hs : Nat → Int32) (ps : Nat → Int32) (dy : Int32) (dn : Int32) (th : Value) : (stW σ p hs ps dy dn th).1 (p + 2) = .inl (0, 8, .inl (ps)) := mxov_in σ p 3 _ 2 (by decide)
theorem st_w0 (σ : mxS) (p : Nat) (hs : Nat → Int32) (ps : Nat → Int32) (dy : Int32) (dn : Int32) (th : Value) (dy' : Int32) (dn' : Int32) (th' : Value) : mxWr (stW σ p hs ps dy dn th) p (.inr (9, [.int dy', .int dn', .ref (p + 1), .ref (p + 2), th'])) = stW σ p hs ps dy' dn' th' := mxov_wr σ p 3 _ (stG p hs ps dy' dn' th') 0 _ (by decide) rfl (fun i hi h => by match i, hi, h with
    | 0, _, h => exact absurd rfl h
    | 1, _, h => exact rfl
    | 2, _, h => exact rfl)
theorem st_w1 (σ : mxS) (p : Nat) (hs : Nat → Int32) (ps : Nat → Int32) (dy : Int32) (dn : Int32) (th : Value) (hs' : Nat → Int32) : mxWr (stW σ p hs ps dy dn th) (p + 1) (.inl (0, 16, .inl (hs'))) = stW σ p hs' ps dy dn th := mxov_wr σ p 3 _ (stG p hs' ps dy dn th) 1 _ (by decide) rfl (fun i hi h => by match i, hi, h with
    | 0, _, h => exact rfl
    | 1, _, h => exact absurd rfl h
    | 2, _, h => exact rfl)
theorem st_w2 (σ : mxS) (p : Nat) (hs : Nat → Int32) (ps : Nat → Int32) (dy : Int32) (dn : Int32) (th : Value) (ps' : Nat → Int32) : mxWr (stW σ p hs ps dy dn th) (p + 2) (.inl (0, 8, .inl (ps'))) = stW σ p hs ps' dy dn th := mxov_wr σ p 3 _ (stG p hs ps' dy dn th) 2 _ (by decide) rfl (fun i hi h => by match i, hi, h with
    | 0, _, h => exact rfl
    | 1, _, h => exact rfl
    | 2, _, h => exact absurd rfl h)
theorem st_o (σ : mxS) (p : Nat) (hs : Nat → Int32) (ps : Nat → Int32) (dy : Int32) (dn : Int32) (th : Value) {z : Nat} (h : ¬ (p ≤ z ∧ z < p + 3)) : (stW σ p hs ps dy dn th).1 z = σ.1 z := mxov_out σ p 3 _ h
theorem st_wo (σ : mxS) (p : Nat) (hs : Nat → Int32) (ps : Nat → Int32) (dy : Int32) (dn : Int32) (th : Value) {z : Nat} (e : mxC) (h : ¬ (p ≤ z ∧ z < p + 3)) : mxWr (stW σ p hs ps dy dn th) z e = stW (mxWr σ z e) p hs ps dy dn th := mxov_wo σ p 3 _ e h
theorem st_of (σ : mxS) (p : Nat) (hs : Nat → Int32) (ps : Nat → Int32) (dy : Int32) (dn : Int32) (th : Value) (h0 : σ.1 p = .inr (9, [.int dy, .int dn, .ref (p + 1), .ref (p + 2), th])) (h1 : σ.1 (p + 1) = .inl (0, 16, .inl (hs))) (h2 : σ.1 (p + 2) = .inl (0, 8, .inl (ps))) : stW σ p hs ps dy dn th = σ := mxov_of σ p 3 _ (fun j hj => by match j, hj with
    | 0, _ => exact h0
    | 1, _ => exact h1
    | 2, _ => exact h2)
theorem st_b {p N : Nat} (h1 : 1000 ≤ p) (h2 : p + 3 ≤ N) : (1000 ≤ p ∧ p < N) ∧ (1000 ≤ p + 1 ∧ p + 1 < N) ∧ (1000 ≤ p + 2 ∧ p + 2 < N) := by omega
def kpG (p : Nat) (ks : Nat → Int32) (kt : Int32) : Nat → mxC := fun j => match j with
  | 0 => .inr (0, [.ref (p + 1), .int kt])
  | 1 => .inl (0, 400, .inl (ks))
  | _ => .inr (98, [])
def kpW (σ : mxS) (p : Nat) (ks : Nat → Int32) (kt : Int32) : mxS := mxov σ p 2 (kpG p ks kt)
theorem kp_n (σ : mxS) (p : Nat) (ks : Nat → Int32) (kt : Int32) : (kpW σ p ks kt).2 = σ.2 := rfl
theorem kp_g0 (σ : mxS) (p : Nat) (ks : Nat → Int32) (kt : Int32) : (kpW σ p ks kt).1 p = .inr (0, [.ref (p + 1), .int kt]) := mxov_in σ p 2 _ 0 (by decide)
theorem kp_g1 (σ : mxS) (p : Nat) (ks : Nat → Int32) (kt : Int32) : (kpW σ p ks kt).1 (p + 1) = .inl (0, 400, .inl (ks)) := mxov_in σ p 2 _ 1 (by decide)
theorem kp_w0 (σ : mxS) (p : Nat) (ks : Nat → Int32) (kt : Int32) (kt' : Int32) : mxWr (kpW σ p ks kt) p (.inr (0, [.ref (p + 1), .int kt'])) = kpW σ p ks kt' := mxov_wr σ p 2 _ (kpG p ks kt') 0 _ (by decide) rfl (fun i hi h => by match i, hi, h with
    | 0, _, h => exact absurd rfl h
    | 1, _, h => exact rfl)
theorem kp_w1 (σ : mxS) (p : Nat) (ks : Nat → Int32) (kt : Int32) (ks' : Nat → Int32) : mxWr (kpW σ p ks kt) (p + 1) (.inl (0, 400, .inl (ks'))) = kpW σ p ks' kt := mxov_wr σ p 2 _ (kpG p ks' kt) 1 _ (by decide) rfl (fun i hi h => by match i, hi, h with
    | 0, _, h => exact rfl
    | 1, _, h => exact absurd rfl h)
theorem kp_o (σ : mxS) (p : Nat) (ks : Nat → Int32) (kt : Int32) {z : Nat} (h : ¬ (p ≤ z ∧ z < p + 2)) : (kpW σ p ks kt).1 z = σ.1 z := mxov_out σ p 2 _ h
theorem kp_wo (σ : mxS) (p : Nat) (ks : Nat → Int32) (kt : Int32) {z : Nat} (e : mxC) (h : ¬ (p ≤ z ∧ z < p + 2)) : mxWr (kpW σ p ks kt) z e = kpW (mxWr σ z e) p ks kt := mxov_wo σ p 2 _ e h
theorem kp_of (σ : mxS) (p : Nat) (ks : Nat → Int32) (kt : Int32) (h0 : σ.1 p = .inr (0, [.ref (p + 1), .int kt])) (h1 : σ.1 (p + 1) = .inl (0, 400, .inl (ks))) : kpW σ p ks kt = σ := mxov_of σ p 2 _ (fun j hj => by match j, hj with
    | 0, _ => exact h0
    | 1, _ => exact h1)
theorem kp_b {p N : Nat} (h1 : 1000 ≤ p) (h2 : p + 2 ≤ N) : (1000 ≤ p ∧ p < N) ∧ (1000 ≤ p + 1 ∧ p + 1 < N) := by omega
def tpG (p : Nat) (bs : Nat → Int32) (tL : Int32) : Nat → mxC := fun j => match j with
  | 0 => .inr (5, [.ref (p + 1), .int tL])
  | 1 => .inl (2, 2000, .inl (bs))
  | _ => .inr (98, [])
def tpW (σ : mxS) (p : Nat) (bs : Nat → Int32) (tL : Int32) : mxS := mxov σ p 2 (tpG p bs tL)
theorem tp_n (σ : mxS) (p : Nat) (bs : Nat → Int32) (tL : Int32) : (tpW σ p bs tL).2 = σ.2 := rfl
theorem tp_g0 (σ : mxS) (p : Nat) (bs : Nat → Int32) (tL : Int32) : (tpW σ p bs tL).1 p = .inr (5, [.ref (p + 1), .int tL]) := mxov_in σ p 2 _ 0 (by decide)
theorem tp_g1 (σ : mxS) (p : Nat) (bs : Nat → Int32) (tL : Int32) : (tpW σ p bs tL).1 (p + 1) = .inl (2, 2000, .inl (bs)) := mxov_in σ p 2 _ 1 (by decide)
theorem tp_w0 (σ : mxS) (p : Nat) (bs : Nat → Int32) (tL : Int32) (tL' : Int32) : mxWr (tpW σ p bs tL) p (.inr (5, [.ref (p + 1), .int tL'])) = tpW σ p bs tL' := mxov_wr σ p 2 _ (tpG p bs tL') 0 _ (by decide) rfl (fun i hi h => by match i, hi, h with
    | 0, _, h => exact absurd rfl h
    | 1, _, h => exact rfl)
theorem tp_w1 (σ : mxS) (p : Nat) (bs : Nat → Int32) (tL : Int32) (bs' : Nat → Int32) : mxWr (tpW σ p bs tL) (p + 1) (.inl (2, 2000, .inl (bs'))) = tpW σ p bs' tL := mxov_wr σ p 2 _ (tpG p bs' tL) 1 _ (by decide) rfl (fun i hi h => by match i, hi, h with
    | 0, _, h => exact rfl
    | 1, _, h => exact absurd rfl h)
theorem tp_o (σ : mxS) (p : Nat) (bs : Nat → Int32) (tL : Int32) {z : Nat} (h : ¬ (p ≤ z ∧ z < p + 2)) : (tpW σ p bs tL).1 z = σ.1 z := mxov_out σ p 2 _ h
theorem tp_wo (σ : mxS) (p : Nat) (bs : Nat → Int32) (tL : Int32) {z : Nat} (e : mxC) (h : ¬ (p ≤ z ∧ z < p + 2)) : mxWr (tpW σ p bs tL) z e = tpW (mxWr σ z e) p bs tL := mxov_wo σ p 2 _ e h
theorem tp_of (σ : mxS) (p : Nat) (bs : Nat → Int32) (tL : Int32) (h0 : σ.1 p = .inr (5, [.ref (p + 1), .int tL])) (h1 : σ.1 (p + 1) = .inl (2, 2000, .inl (bs))) : tpW σ p bs tL = σ := mxov_of σ p 2 _ (fun j hj => by match j, hj with
    | 0, _ => exact h0
    | 1, _ => exact h1)
theorem tp_b {p N : Nat} (h1 : 1000 ≤ p) (h2 : p + 2 ≤ N) : (1000 ≤ p ∧ p < N) ∧ (1000 ≤ p + 1 ∧ p + 1 < N) := by omega
def skG (p : Nat) (hs : Nat → Int32) (tl : Nat → Int32) (tr : Nat → Int32) (ws : Nat → Int32) (sn : Nat → Int32) (ps : Nat → Int32) (ls : Nat → Int32) (tc : Int32) (pc : Int32) (dn : Int32) (co : Int32) (rn : Int32) (wc : Int32) (sl : Int32) (sr : Int32) : Nat → mxC := fun j => match j with
  | 0 => .inr (3, [.ref (p + 1), .ref (p + 2), .ref (p + 3), .ref (p + 4), .ref (p + 5), .ref (p + 6), .ref (p + 7), .int tc, .int pc, .int dn, .int co, .int rn, .int wc, .int sl, .int sr])
  | 1 => .inl (0, 16, .inl (hs))
  | 2 => .inl (0, 16, .inl (tl))
  | 3 => .inl (0, 16, .inl (tr))
  | 4 => .inl (0, 16, .inl (ws))
  | 5 => .inl (3, 16, .inl (sn))
  | 6 => .inl (0, 8, .inl (ps))
  | 7 => .inl (0, 8, .inl (ls))
  | _ => .inr (98, [])
def skW (σ : mxS) (p : Nat) (hs : Nat → Int32) (tl : Nat → Int32) (tr : Nat → Int32) (ws : Nat → Int32) (sn : Nat → Int32) (ps : Nat → Int32) (ls : Nat → Int32) (tc : Int32) (pc : Int32) (dn : Int32) (co : Int32) (rn : Int32) (wc : Int32) (sl : Int32) (sr : Int32) : mxS := mxov σ p 8 (skG p hs tl tr ws sn ps ls tc pc dn co rn wc sl sr)
theorem sk_n (σ : mxS) (p : Nat) (hs : Nat → Int32) (tl : Nat → Int32) (tr : Nat → Int32) (ws : Nat → Int32) (sn : Nat → Int32) (ps : Nat → Int32) (ls : Nat → Int32) (tc : Int32) (pc : Int32) (dn : Int32) (co : Int32) (rn : Int32) (wc : Int32) (sl : Int32) (sr : Int32) : (skW σ p hs tl tr ws sn ps ls tc pc dn co rn wc sl sr).2 = σ.2 := rfl
theorem sk_g0 (σ : mxS) (p : Nat) (hs : Nat → Int32) (tl : Nat → Int32) (tr : Nat → Int32) (ws : Nat → Int32) (sn : Nat → Int32) (ps : Nat → Int32) (ls : Nat → Int32) (tc : Int32) (pc : Int32) (dn : Int32) (co : Int32) (rn : Int32) (wc : Int32) (sl : Int32) (sr : Int32) : (skW σ p hs tl tr ws sn ps ls tc pc dn co rn wc sl sr).1 p = .inr (3, [.ref (p + 1), .ref (p + 2), .ref (p + 3), .ref (p + 4), .ref (p + 5), .ref (p + 6), .ref (p + 7), .int tc, .int pc, .int dn, .int co, .int rn, .int wc, .int sl, .int sr]) := mxov_in σ p 8 _ 0 (by decide)
theorem sk_g1 (σ : mxS) (p : Nat) (hs : Nat → Int32) (tl : Nat → Int32) (tr : Nat → Int32) (ws : Nat → Int32) (sn : Nat → Int32) (ps : Nat → Int32) (ls : Nat → Int32) (tc : Int32) (pc : Int32) (dn : Int32) (co : Int32) (rn : Int32) (wc : Int32) (sl : Int32) (sr : Int32) : (skW σ p hs tl tr ws sn ps ls tc pc dn co rn wc sl sr).1 (p + 1) = .inl (0, 16, .inl (hs)) := mxov_in σ p 8 _ 1 (by decide)
theorem sk_g2 (σ : mxS) (p : Nat) (hs : Nat → Int32) (tl : Nat → Int32) (tr : Nat → Int32) (ws : Nat → Int32) (sn : Nat → Int32) (ps : Nat → Int32) (ls : Nat → Int32) (tc : Int32) (pc : Int32) (dn : Int32) (co : Int32) (rn : Int32) (wc : Int32) (sl : Int32) (sr : Int32) : (skW σ p hs tl tr ws sn ps ls tc pc dn co rn wc sl sr).1 (p + 2) = .inl (0, 16, .inl (tl)) := mxov_in σ p 8 _ 2 (by decide)
theorem sk_g3 (σ : mxS) (p : Nat) (hs : Nat → Int32) (tl : Nat → Int32) (tr : Nat → Int32) (ws : Nat → Int32) (sn : Nat → Int32) (ps : Nat → Int32) (ls : Nat → Int32) (tc : Int32) (pc : Int32) (dn : Int32) (co : Int32) (rn : Int32) (wc : Int32) (sl : Int32) (sr : Int32) : (skW σ p hs tl tr ws sn ps ls tc pc dn co rn wc sl sr).1 (p + 3) = .inl (0, 16, .inl (tr)) := mxov_in σ p 8 _ 3 (by decide)
theorem sk_g4 (σ : mxS) (p : Nat) (hs : Nat → Int32) (tl : Nat → Int32) (tr : Nat → Int32) (ws : Nat → Int32) (sn : Nat → Int32) (ps : Nat → Int32) (ls : Nat → Int32) (tc : Int32) (pc : Int32) (dn : Int32) (co : Int32) (rn : Int32) (wc : Int32) (sl : Int32) (sr : Int32) : (skW σ p hs tl tr ws sn ps ls tc pc dn co rn wc sl sr).1 (p + 4) = .inl (0, 16, .inl (ws)) := mxov_in σ p 8 _ 4 (by decide)
theorem sk_g5 (σ : mxS) (p : Nat) (hs : Nat → Int32) (tl : Nat → Int32) (tr : Nat → Int32) (ws : Nat → Int32) (sn : Nat → Int32) (ps : Nat → Int32) (ls : Nat → Int32) (tc : Int32) (pc : Int32) (dn : Int32) (co : Int32) (rn : Int32) (wc : Int32) (sl : Int32) (sr : Int32) : (skW σ p hs tl tr ws sn ps ls tc pc dn co rn wc sl sr).1 (p + 5) = .inl (3, 16, .inl (sn)) := mxov_in σ p 8 _ 5 (by decide)
theorem sk_g6 (σ : mxS) (p : Nat) (hs : Nat → Int32) (tl : Nat → Int32) (tr : Nat → Int32) (ws : Nat → Int32) (sn : Nat → Int32) (ps : Nat → Int32) (ls : Nat → Int32) (tc : Int32) (pc : Int32) (dn : Int32) (co : Int32) (rn : Int32) (wc : Int32) (sl : Int32) (sr : Int32) : (skW σ p hs tl tr ws sn ps ls tc pc dn co rn wc sl sr).1 (p + 6) = .inl (0, 8, .inl (ps)) := mxov_in σ p 8 _ 6 (by decide)
theorem sk_g7 (σ : mxS) (p : Nat) (hs : Nat → Int32) (tl : Nat → Int32) (tr : Nat → Int32) (ws : Nat → Int32) (sn : Nat → Int32) (ps : Nat → Int32) (ls : Nat → Int32) (tc : Int32) (pc : Int32) (dn : Int32) (co : Int32) (rn : Int32) (wc : Int32) (sl : Int32) (sr : Int32) : (skW σ p hs tl tr ws sn ps ls tc pc dn co rn wc sl sr).1 (p + 7) = .inl (0, 8, .inl (ls)) := mxov_in σ p 8 _ 7 (by decide)
theorem sk_w0 (σ : mxS) (p : Nat) (hs : Nat → Int32) (tl : Nat → Int32) (tr : Nat → Int32) (ws : Nat → Int32) (sn : Nat → Int32) (ps : Nat → Int32) (ls : Nat → Int32) (tc : Int32) (pc : Int32) (dn : Int32) (co : Int32) (rn : Int32) (wc : Int32) (sl : Int32) (sr : Int32) (tc' : Int32) (pc' : Int32) (dn' : Int32) (co' : Int32) (rn' : Int32) (wc' : Int32) (sl' : Int32) (sr' : Int32) : mxWr (skW σ p hs tl tr ws sn ps ls tc pc dn co rn wc sl sr) p (.inr (3, [.ref (p + 1), .ref (p + 2), .ref (p + 3), .ref (p + 4), .ref (p + 5), .ref (p + 6), .ref (p + 7), .int tc', .int pc', .int dn', .int co', .int rn', .int wc', .int sl', .int sr'])) = skW σ p hs tl tr ws sn ps ls tc' pc' dn' co' rn' wc' sl' sr' := mxov_wr σ p 8 _ (skG p hs tl tr ws sn ps ls tc' pc' dn' co' rn' wc' sl' sr') 0 _ (by decide) rfl (fun i hi h => by match i, hi, h with
    | 0, _, h => exact absurd rfl h
    | 1, _, h => exact rfl
    | 2, _, h => exact rfl
    | 3, _, h => exact rfl
    | 4, _, h => exact rfl
    | 5, _, h => exact rfl
    | 6, _, h => exact rfl
    | 7, _, h => exact rfl)
theorem sk_w1 (σ : mxS) (p : Nat) (hs : Nat → Int32) (tl : Nat → Int32) (tr : Nat → Int32) (ws : Nat → Int32) (sn : Nat → Int32) (ps : Nat → Int32) (ls : Nat → Int32) (tc : Int32) (pc : Int32) (dn : Int32) (co : Int32) (rn : Int32) (wc : Int32) (sl : Int32) (sr : Int32) (hs' : Nat → Int32) : mxWr (skW σ p hs tl tr ws sn ps ls tc pc dn co rn wc sl sr) (p + 1) (.inl (0, 16, .inl (hs'))) = skW σ p hs' tl tr ws sn ps ls tc pc dn co rn wc sl sr := mxov_wr σ p 8 _ (skG p hs' tl tr ws sn ps ls tc pc dn co rn wc sl sr) 1 _ (by decide) rfl (fun i hi h => by match i, hi, h with
    | 0, _, h => exact rfl
    | 1, _, h => exact absurd rfl h
    | 2, _, h => exact rfl
    | 3, _, h => exact rfl
    | 4, _, h => exact rfl
    | 5, _, h => exact rfl
    | 6, _, h => exact rfl
    | 7, _, h => exact rfl)
theorem sk_w2 (σ : mxS) (p : Nat) (hs : Nat → Int32) (tl : Nat → Int32) (tr : Nat → Int32) (ws : Nat → Int32) (sn : Nat → Int32) (ps : Nat → Int32) (ls : Nat → Int32) (tc : Int32) (pc : Int32) (dn : Int32) (co : Int32) (rn : Int32) (wc : Int32) (sl : Int32) (sr : Int32) (tl' : Nat → Int32) : mxWr (skW σ p hs tl tr ws sn ps ls tc pc dn co rn wc sl sr) (p + 2) (.inl (0, 16, .inl (tl'))) = skW σ p hs tl' tr ws sn ps ls tc pc dn co rn wc sl sr := mxov_wr σ p 8 _ (skG p hs tl' tr ws sn ps ls tc pc dn co rn wc sl sr) 2 _ (by decide) rfl (fun i hi h => by match i, hi, h with
    | 0, _, h => exact rfl
    | 1, _, h => exact rfl
    | 2, _, h => exact absurd rfl h
    | 3, _, h => exact rfl
    | 4, _, h => exact rfl
    | 5, _, h => exact rfl
    | 6, _, h => exact rfl
    | 7, _, h => exact rfl)
theorem sk_w3 (σ : mxS) (p : Nat) (hs : Nat → Int32) (tl : Nat → Int32) (tr : Nat → Int32) (ws : Nat → Int32) (sn : Nat → Int32) (ps : Nat → Int32) (ls : Nat → Int32) (tc : Int32) (pc : Int32) (dn : Int32) (co : Int32) (rn : Int32) (wc : Int32) (sl : Int32) (sr : Int32) (tr' : Nat → Int32) : mxWr (skW σ p hs tl tr ws sn ps ls tc pc dn co rn wc sl sr) (p + 3) (.inl (0, 16, .inl (tr'))) = skW σ p hs tl tr' ws sn ps ls tc pc dn co rn wc sl sr := mxov_wr σ p 8 _ (skG p hs tl tr' ws sn ps ls tc pc dn co rn wc sl sr) 3 _ (by decide) rfl (fun i hi h => by match i, hi, h with
    | 0, _, h => exact rfl
    | 1, _, h => exact rfl
    | 2, _, h => exact rfl
    | 3, _, h => exact absurd rfl h
    | 4, _, h => exact rfl
    | 5, _, h => exact rfl
    | 6, _, h => exact rfl
    | 7, _, h => exact rfl)
theorem sk_w4 (σ : mxS) (p : Nat) (hs : Nat → Int32) (tl : Nat → Int32) (tr : Nat → Int32) (ws : Nat → Int32) (sn : Nat → Int32) (ps : Nat → Int32) (ls : Nat → Int32) (tc : Int32) (pc : Int32) (dn : Int32) (co : Int32) (rn : Int32) (wc : Int32) (sl : Int32) (sr : Int32) (ws' : Nat → Int32) : mxWr (skW σ p hs tl tr ws sn ps ls tc pc dn co rn wc sl sr) (p + 4) (.inl (0, 16, .inl (ws'))) = skW σ p hs tl tr ws' sn ps ls tc pc dn co rn wc sl sr := mxov_wr σ p 8 _ (skG p hs tl tr ws' sn ps ls tc pc dn co rn wc sl sr) 4 _ (by decide) rfl (fun i hi h => by match i, hi, h with
    | 0, _, h => exact rfl
    | 1, _, h => exact rfl
    | 2, _, h => exact rfl
    | 3, _, h => exact rfl
    | 4, _, h => exact absurd rfl h
    | 5, _, h => exact rfl
    | 6, _, h => exact rfl
    | 7, _, h => exact rfl)
theorem sk_w5 (σ : mxS) (p : Nat) (hs : Nat → Int32) (tl : Nat → Int32) (tr : Nat → Int32) (ws : Nat → Int32) (sn : Nat → Int32) (ps : Nat → Int32) (ls : Nat → Int32) (tc : Int32) (pc : Int32) (dn : Int32) (co : Int32) (rn : Int32) (wc : Int32) (sl : Int32) (sr : Int32) (sn' : Nat → Int32) : mxWr (skW σ p hs tl tr ws sn ps ls tc pc dn co rn wc sl sr) (p + 5) (.inl (3, 16, .inl (sn'))) = skW σ p hs tl tr ws sn' ps ls tc pc dn co rn wc sl sr := mxov_wr σ p 8 _ (skG p hs tl tr ws sn' ps ls tc pc dn co rn wc sl sr) 5 _ (by decide) rfl (fun i hi h => by match i, hi, h with
    | 0, _, h => exact rfl
    | 1, _, h => exact rfl
    | 2, _, h => exact rfl
    | 3, _, h => exact rfl
    | 4, _, h => exact rfl
    | 5, _, h => exact absurd rfl h
    | 6, _, h => exact rfl
    | 7, _, h => exact rfl)
theorem sk_w6 (σ : mxS) (p : Nat) (hs : Nat → Int32) (tl : Nat → Int32) (tr : Nat → Int32) (ws : Nat → Int32) (sn : Nat → Int32) (ps : Nat → Int32) (ls : Nat → Int32) (tc : Int32) (pc : Int32) (dn : Int32) (co : Int32) (rn : Int32) (wc : Int32) (sl : Int32) (sr : Int32) (ps' : Nat → Int32) : mxWr (skW σ p hs tl tr ws sn ps ls tc pc dn co rn wc sl sr) (p + 6) (.inl (0, 8, .inl (ps'))) = skW σ p hs tl tr ws sn ps' ls tc pc dn co rn wc sl sr := mxov_wr σ p 8 _ (skG p hs tl tr ws sn ps' ls tc pc dn co rn wc sl sr) 6 _ (by decide) rfl (fun i hi h => by match i, hi, h with
    | 0, _, h => exact rfl
    | 1, _, h => exact rfl
    | 2, _, h => exact rfl
    | 3, _, h => exact rfl
    | 4, _, h => exact rfl
    | 5, _, h => exact rfl
    | 6, _, h => exact absurd rfl h
    | 7, _, h => exact rfl)
theorem sk_w7 (σ : mxS) (p : Nat) (hs : Nat → Int32) (tl : Nat → Int32) (tr : Nat → Int32) (ws : Nat → Int32) (sn : Nat → Int32) (ps : Nat → Int32) (ls : Nat → Int32) (tc : Int32) (pc : Int32) (dn : Int32) (co : Int32) (rn : Int32) (wc : Int32) (sl : Int32) (sr : Int32) (ls' : Nat → Int32) : mxWr (skW σ p hs tl tr ws sn ps ls tc pc dn co rn wc sl sr) (p + 7) (.inl (0, 8, .inl (ls'))) = skW σ p hs tl tr ws sn ps ls' tc pc dn co rn wc sl sr := mxov_wr σ p 8 _ (skG p hs tl tr ws sn ps ls' tc pc dn co rn wc sl sr) 7 _ (by decide) rfl (fun i hi h => by match i, hi, h with
    | 0, _, h => exact rfl
    | 1, _, h => exact rfl
    | 2, _, h => exact rfl
    | 3, _, h => exact rfl
    | 4, _, h => exact rfl
    | 5, _, h => exact rfl
    | 6, _, h => exact rfl
    | 7, _, h => exact absurd rfl h)
theorem sk_o (σ : mxS) (p : Nat) (hs : Nat → Int32) (tl : Nat → Int32) (tr : Nat → Int32) (ws : Nat → Int32) (sn : Nat → Int32) (ps : Nat → Int32) (ls : Nat → Int32) (tc : Int32) (pc : Int32) (dn : Int32) (co : Int32) (rn : Int32) (wc : Int32) (sl : Int32) (sr : Int32) {z : Nat} (h : ¬ (p ≤ z ∧ z < p + 8)) : (skW σ p hs tl tr ws sn ps ls tc pc dn co rn wc sl sr).1 z = σ.1 z := mxov_out σ p 8 _ h
theorem sk_wo (σ : mxS) (p : Nat) (hs : Nat → Int32) (tl : Nat → Int32) (tr : Nat → Int32) (ws : Nat → Int32) (sn : Nat → Int32) (ps : Nat → Int32) (ls : Nat → Int32) (tc : Int32) (pc : Int32) (dn : Int32) (co : Int32) (rn : Int32) (wc : Int32) (sl : Int32) (sr : Int32) {z : Nat} (e : mxC) (h : ¬ (p ≤ z ∧ z < p + 8)) : mxWr (skW σ p hs tl tr ws sn ps ls tc pc dn co rn wc sl sr) z e = skW (mxWr σ z e) p hs tl tr ws sn ps ls tc pc dn co rn wc sl sr := mxov_wo σ p 8 _ e h
theorem sk_of (σ : mxS) (p : Nat) (hs : Nat → Int32) (tl : Nat → Int32) (tr : Nat → Int32) (ws : Nat → Int32) (sn : Nat → Int32) (ps : Nat → Int32) (ls : Nat → Int32) (tc : Int32) (pc : Int32) (dn : Int32) (co : Int32) (rn : Int32) (wc : Int32) (sl : Int32) (sr : Int32) (h0 : σ.1 p = .inr (3, [.ref (p + 1), .ref (p + 2), .ref (p + 3), .ref (p + 4), .ref (p + 5), .ref (p + 6), .ref (p + 7), .int tc, .int pc, .int dn, .int co, .int rn, .int wc, .int sl, .int sr])) (h1 : σ.1 (p + 1) = .inl (0, 16, .inl (hs))) (h2 : σ.1 (p + 2) = .inl (0, 16, .inl (tl))) (h3 : σ.1 (p + 3) = .inl (0, 16, .inl (tr))) (h4 : σ.1 (p + 4) = .inl (0, 16, .inl (ws))) (h5 : σ.1 (p + 5) = .inl (3, 16, .inl (sn))) (h6 : σ.1 (p + 6) = .inl (0, 8, .inl (ps))) (h7 : σ.1 (p + 7) = .inl (0, 8, .inl (ls))) : skW σ p hs tl tr ws sn ps ls tc pc dn co rn wc sl sr = σ := mxov_of σ p 8 _ (fun j hj => by match j, hj with
    | 0, _ => exact h0
    | 1, _ => exact h1
    | 2, _ => exact h2
    | 3, _ => exact h3
    | 4, _ => exact h4
    | 5, _ => exact h5
    | 6, _ => exact h6
    | 7, _ => exact h7)
theorem sk_b {p N : Nat} (h1 : 1000 ≤ p) (h2 : p + 8 ≤ N) : (1000 ≤ p ∧ p < N) ∧ (1000 ≤ p + 1 ∧ p + 1 < N) ∧ (1000 ≤ p + 2 ∧ p + 2 < N) ∧ (1000 ≤ p + 3 ∧ p + 3 < N) ∧ (1000 ≤ p + 4 ∧ p + 4 < N) ∧ (1000 ≤ p + 5 ∧ p + 5 < N) ∧ (1000 ≤ p + 6 ∧ p + 6 < N) ∧ (1000 ≤ p + 7 ∧ p + 7 < N) := by omega
theorem cal {d y pc y' : Nat} {loc l : mxL} {r as : List Value} {Q : Option Value ⊕ Nat → mxS → Prop} {σ : mxS} {R : Prop} (he : mxent y' as = some l) (h : WP (d - 1) y' 0 l [] σ (mxK d y pc loc r Q y') = R) : mxC1 d y pc loc r Q y' σ (mxent y' as) = (1 ≤ d ∧ R) := by rw [he, e_C1, h]
theorem z00 : (nI 0 = 0) = True := eq_true rfl
theorem z10 : (nI 1 = 0) = False := eq_false (by decide)
theorem z11 : (nI 1 = 1) = True := eq_true rfl
theorem stk {d y pc : Nat} {loc : mxL} {st : List Value} {σ : mxS} {Q : Option Value ⊕ Nat → mxS → Prop} {R : Prop} (h : WP d y pc loc st σ Q = R) : WA d y pc loc σ Q (mxStep y pc loc st σ) = R := (WP_eq d y pc loc st σ Q).symm.trans h
/-- the first n places by one function, the rest by another -/
def upto {α : Type} (n : Nat) (f g : Nat → α) : Nat → α := fun j => if j < n then f j else g j
theorem upto_0 {α : Type} (f g : Nat → α) : upto 0 f g = g := by funext j; simp [upto]
theorem upto_s {α : Type} (n : Nat) (f g : Nat → α) : va_up (upto n f g) n (f n) = upto (n + 1) f g := by
  funext j
  by_cases h : j = n
  · subst h; simp [va_up, upto]
  · by_cases h2 : j < n
    · have : j < n + 1 := by omega
      simp [va_up, upto, h, h2, this]
    · have : ¬ j < n + 1 := by omega
      simp [va_up, upto, h, h2, this]
theorem upto_lt {α : Type} {n j : Nat} (f g : Nat → α) (h : j < n) : upto n f g j = f j := if_pos h
theorem upto_ge {α : Type} {n j : Nat} (f g : Nat → α) (h : ¬ j < n) : upto n f g j = g j := if_neg h
theorem nIm (n : Nat) : nI n + nI 1 = nI (n + 1) := nI_add n 1
theorem nIi (n : Nat) : nI n + Int32.ofInt 1 = nI (n + 1) := nI_add n 1
theorem nId (n : Nat) : nI (n + 1) + Int32.ofInt (-1) = nI n := by
  rw [← nI_add n 1, Int32.add_assoc]
  show nI n + 0 = nI n
  simp
theorem nIp (n : Nat) : nI (n + 1) - nI 1 = nI n := by
  rw [← nI_add n 1]
  simp
theorem nIz : nI 0 + Int32.ofInt (-1) = -1 := by decide
theorem nIo : nI 0 - nI 1 = -1 := by decide
def encO : Option Nat → Int32
  | none => -1
  | some k => nI k
theorem mxidx_nI {t n : Nat} (h : t < n) (hn : n < 2 ^ 31) : mxidx (nI t) n = some t := by
  unfold mxidx
  rw [if_neg (nI_in h hn), nI_clamp (by omega)]
