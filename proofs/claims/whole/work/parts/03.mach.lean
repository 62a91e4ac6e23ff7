/-! ===== the abstract machine: my own reading of the bytecode as a function over a small heap of cells; constants lie below 1000 ===== -/
abbrev mxC : Type := (Nat × vp_A) ⊕ (Nat × List Value)
abbrev mxS : Type := (Nat → mxC) × Nat × Nat
abbrev mxL : Type := List (Option Value)
abbrev mxN : Type := Nat × mxL × List Value × mxS
abbrev mxAct : Type := mxN ⊕ (Option Value) ⊕ (Nat × List Value × List Value) ⊕ Nat
abbrev mxR : Type := (Option Value ⊕ Nat) × mxS
def mxWr (σ : mxS) (a : Nat) (e : mxC) : mxS := (va_up σ.1 a e, σ.2.1, σ.2.2)
def mxAl (σ : mxS) (e : mxC) (k : Nat) : mxS := (va_up σ.1 (1000 + σ.2.1) e, σ.2.1 + 1, σ.2.2 + k)
def mxgo (pc : Nat) (loc : mxL) (st : List Value) (σ : mxS) : Option mxAct := some (.inl (pc, loc, st, σ))
def mxat : mxL → Nat → Option Value
  | [], _ => none
  | v :: _, 0 => v
  | _ :: l, k + 1 => mxat l k
/-- a value of two slots does not outlive a store into its second -/
def mxkill : Option Value → Option Value
  | some (.long _) => none
  | some (.double _) => none
  | v => v
def mxst1 : mxL → Nat → Value → mxL
  | [], _, _ => []
  | _ :: l, 0, v => some v :: l
  | p :: _ :: l, 1, v => mxkill p :: some v :: l
  | p :: l, k + 1, v => p :: mxst1 l k v
def mxst2 : mxL → Nat → Value → mxL
  | [], _, _ => []
  | [_], 0, _ => []
  | _ :: _ :: l, 0, v => some v :: none :: l
  | p :: _ :: _ :: l, 1, v => mxkill p :: some v :: none :: l
  | p :: l, k + 1, v => p :: mxst2 l k v
def mxldI (pc : Nat) (loc : mxL) (st : List Value) (σ : mxS) : Option Value → Option mxAct
  | some (.int x) => mxgo pc loc (.int x :: st) σ
  | _ => none
def mxldJ (pc : Nat) (loc : mxL) (st : List Value) (σ : mxS) : Option Value → Option mxAct
  | some (.long x) => mxgo pc loc (.long x :: st) σ
  | _ => none
def mxldD (pc : Nat) (loc : mxL) (st : List Value) (σ : mxS) : Option Value → Option mxAct
  | some (.double x) => mxgo pc loc (.double x :: st) σ
  | _ => none
def mxldA (pc : Nat) (loc : mxL) (st : List Value) (σ : mxS) : Option Value → Option mxAct
  | some (.ref x) => mxgo pc loc (.ref x :: st) σ
  | some .null => mxgo pc loc (.null :: st) σ
  | _ => none
def mxstI (k pc : Nat) (loc : mxL) (st : List Value) (σ : mxS) : Option mxAct := match st with
  | .int x :: r => if k < loc.length then mxgo pc (mxst1 loc k (.int x)) r σ else none
  | _ => none
def mxstJ (k pc : Nat) (loc : mxL) (st : List Value) (σ : mxS) : Option mxAct := match st with
  | .long x :: r => if k + 1 < loc.length then mxgo pc (mxst2 loc k (.long x)) r σ else none
  | _ => none
def mxstD (k pc : Nat) (loc : mxL) (st : List Value) (σ : mxS) : Option mxAct := match st with
  | .double x :: r => if k + 1 < loc.length then mxgo pc (mxst2 loc k (.double x)) r σ else none
  | _ => none
def mxstA (k pc : Nat) (loc : mxL) (st : List Value) (σ : mxS) : Option mxAct := match st with
  | .ref x :: r => if k < loc.length then mxgo pc (mxst1 loc k (.ref x)) r σ else none
  | .null :: r => if k < loc.length then mxgo pc (mxst1 loc k .null) r σ else none
  | _ => none
def mxinc (k : Nat) (n : Int) (pc : Nat) (loc : mxL) (st : List Value) (σ : mxS) : Option Value → Option mxAct
  | some (.int x) => if k < loc.length then mxgo pc (mxst1 loc k (.int (x + Int32.ofInt n))) st σ else none
  | _ => none
def mxI2 (f : Int32 → Int32 → Int32) (pc : Nat) (loc : mxL) (st : List Value) (σ : mxS) : Option mxAct := match st with
  | .int y :: .int x :: r => mxgo pc loc (.int (f x y) :: r) σ
  | _ => none
/-- quotient and remainder: the divisor isn't 0 -/
def mxI2z (f : Int32 → Int32 → Int32) (pc : Nat) (loc : mxL) (st : List Value) (σ : mxS) : Option mxAct := match st with
  | .int y :: .int x :: r => if y = 0 then none else mxgo pc loc (.int (f x y) :: r) σ
  | _ => none
def mxI1 (f : Int32 → Int32) (pc : Nat) (loc : mxL) (st : List Value) (σ : mxS) : Option mxAct := match st with
  | .int x :: r => mxgo pc loc (.int (f x) :: r) σ
  | _ => none
def mxI2J (pc : Nat) (loc : mxL) (st : List Value) (σ : mxS) : Option mxAct := match st with
  | .int x :: r => mxgo pc loc (.long x.toInt64 :: r) σ
  | _ => none
def mxJ2I (pc : Nat) (loc : mxL) (st : List Value) (σ : mxS) : Option mxAct := match st with
  | .long x :: r => mxgo pc loc (.int x.toInt32 :: r) σ
  | _ => none
def mxI2D (pc : Nat) (loc : mxL) (st : List Value) (σ : mxS) : Option mxAct := match st with
  | .int x :: r => mxgo pc loc (.double (FP.i2d x) :: r) σ
  | _ => none
def mxJ2 (f : Int64 → Int64 → Int64) (pc : Nat) (loc : mxL) (st : List Value) (σ : mxS) : Option mxAct := match st with
  | .long y :: .long x :: r => mxgo pc loc (.long (f x y) :: r) σ
  | _ => none
def mxlcmp (pc : Nat) (loc : mxL) (st : List Value) (σ : mxS) : Option mxAct := match st with
  | .long y :: .long x :: r => mxgo pc loc (.int (lg_cmp x y) :: r) σ
  | _ => none
def mxdcmp (op : CmpOp) (pc : Nat) (loc : mxL) (st : List Value) (σ : mxS) : Option mxAct := match st with
  | .double y :: .double x :: r => mxgo pc loc (.int (Op.cmpValue (FP.dcmp x y) op) :: r) σ
  | _ => none
/-- a quotient that is no NaN: nothing is drawn -/
def mxddiv (pc : Nat) (loc : mxL) (st : List Value) (σ : mxS) : Option mxAct := match st with
  | .double y :: .double x :: r => if (FP.ddiv x y) &&& 0x7fffffffffffffff ≤ 0x7ff0000000000000 then mxgo pc loc (.double (FP.ddiv x y) :: r) σ else none
  | _ => none
def mxif_eq (tgt pc : Nat) (loc : mxL) (st : List Value) (σ : mxS) : Option mxAct := match st with
  | .int x :: r => if x = 0 then mxgo tgt loc r σ else mxgo pc loc r σ
  | _ => none
def mxic_eq (tgt pc : Nat) (loc : mxL) (st : List Value) (σ : mxS) : Option mxAct := match st with
  | .int y :: .int x :: r => if x = y then mxgo tgt loc r σ else mxgo pc loc r σ
  | _ => none
def mxif_ne (tgt pc : Nat) (loc : mxL) (st : List Value) (σ : mxS) : Option mxAct := match st with
  | .int x :: r => if ¬ x = 0 then mxgo tgt loc r σ else mxgo pc loc r σ
  | _ => none
def mxic_ne (tgt pc : Nat) (loc : mxL) (st : List Value) (σ : mxS) : Option mxAct := match st with
  | .int y :: .int x :: r => if ¬ x = y then mxgo tgt loc r σ else mxgo pc loc r σ
  | _ => none
def mxif_lt (tgt pc : Nat) (loc : mxL) (st : List Value) (σ : mxS) : Option mxAct := match st with
  | .int x :: r => if x < 0 then mxgo tgt loc r σ else mxgo pc loc r σ
  | _ => none
def mxic_lt (tgt pc : Nat) (loc : mxL) (st : List Value) (σ : mxS) : Option mxAct := match st with
  | .int y :: .int x :: r => if x < y then mxgo tgt loc r σ else mxgo pc loc r σ
  | _ => none
def mxif_ge (tgt pc : Nat) (loc : mxL) (st : List Value) (σ : mxS) : Option mxAct := match st with
  | .int x :: r => if 0 ≤ x then mxgo tgt loc r σ else mxgo pc loc r σ
  | _ => none
def mxic_ge (tgt pc : Nat) (loc : mxL) (st : List Value) (σ : mxS) : Option mxAct := match st with
  | .int y :: .int x :: r => if y ≤ x then mxgo tgt loc r σ else mxgo pc loc r σ
  | _ => none
def mxif_gt (tgt pc : Nat) (loc : mxL) (st : List Value) (σ : mxS) : Option mxAct := match st with
  | .int x :: r => if 0 < x then mxgo tgt loc r σ else mxgo pc loc r σ
  | _ => none
def mxic_gt (tgt pc : Nat) (loc : mxL) (st : List Value) (σ : mxS) : Option mxAct := match st with
  | .int y :: .int x :: r => if y < x then mxgo tgt loc r σ else mxgo pc loc r σ
  | _ => none
def mxif_le (tgt pc : Nat) (loc : mxL) (st : List Value) (σ : mxS) : Option mxAct := match st with
  | .int x :: r => if x ≤ 0 then mxgo tgt loc r σ else mxgo pc loc r σ
  | _ => none
def mxic_le (tgt pc : Nat) (loc : mxL) (st : List Value) (σ : mxS) : Option mxAct := match st with
  | .int y :: .int x :: r => if x ≤ y then mxgo tgt loc r σ else mxgo pc loc r σ
  | _ => none
/-- constants of the enum, or null, are compared: by their numbers -/
def mxen : Value → Option (Option Nat)
  | .ref a => if a < 47 then some (some a) else none
  | .null => some none
  | _ => none
def mxca2 (w : Bool) (tgt pc : Nat) (loc : mxL) (r : List Value) (σ : mxS) : Option (Option Nat) → Option (Option Nat) → Option mxAct
  | some a, some b => if decide (a = b) = w then mxgo tgt loc r σ else mxgo pc loc r σ
  | _, _ => none
def mxca (w : Bool) (tgt pc : Nat) (loc : mxL) (st : List Value) (σ : mxS) : Option mxAct := match st with
  | y :: x :: r => mxca2 w tgt pc loc r σ (mxen x) (mxen y)
  | _ => none
def mxlk : List (Int × Nat) → Nat → Int → Nat
  | [], d, _ => d
  | (k, t) :: l, d, x => if x = k then t else mxlk l d x
def mxsw (ps : List (Int × Nat)) (d : Nat) (loc : mxL) (st : List Value) (σ : mxS) : Option mxAct := match st with
  | .int x :: r => mxgo (mxlk ps d x.toInt) loc r σ
  | _ => none
def mxdup (pc : Nat) (loc : mxL) (st : List Value) (σ : mxS) : Option mxAct := match st with
  | v :: r => if v.category = 1 then mxgo pc loc (v :: v :: r) σ else none
  | _ => none
def mxdup2 (pc : Nat) (loc : mxL) (st : List Value) (σ : mxS) : Option mxAct := match st with
  | v :: w :: r => if v.category = 1 ∧ w.category = 1 then mxgo pc loc (v :: w :: v :: w :: r) σ else none
  | _ => none
def mxpop (pc : Nat) (loc : mxL) (st : List Value) (σ : mxS) : Option mxAct := match st with
  | v :: r => if v.category = 1 then mxgo pc loc r σ else none
  | _ => none
def mxgf3 (pc : Nat) (loc : mxL) (r : List Value) (σ : mxS) : Option Value → Option mxAct
  | some v => mxgo pc loc (v :: r) σ
  | none => none
/-- a field: the object is of the kind ci -/
def mxgf2 (ci k pc : Nat) (loc : mxL) (r : List Value) (σ : mxS) : mxC → Option mxAct
  | .inr (cj, fs) => if cj = ci then mxgf3 pc loc r σ (fs[k]?) else none
  | .inl _ => none
def mxgf (ci k pc : Nat) (loc : mxL) (st : List Value) (σ : mxS) : Option mxAct := match st with
  | .ref a :: r => if a < 1000 + σ.2.1 then mxgf2 ci k pc loc r σ (σ.1 a) else none
  | _ => none
/-- what a field of a kind may hold: 0 an int, 1 a boolean, 2 a reference -/
def mxfit : Nat → Value → Bool
  | 0, .int _ => true
  | 1, .int x => x == 0 || x == 1
  | 2, .ref _ => true
  | 2, .null => true
  | _, _ => false
def mxpf2 (ci k pc : Nat) (loc : mxL) (v : Value) (a : Nat) (r : List Value) (σ : mxS) : mxC → Option mxAct
  | .inr (cj, fs) => if cj = ci ∧ k < fs.length then mxgo pc loc r (mxWr σ a (.inr (ci, fs.set k v))) else none
  | .inl _ => none
def mxpf (ci k knd pc : Nat) (loc : mxL) (st : List Value) (σ : mxS) : Option mxAct := match st with
  | v :: .ref a :: r => if 1000 ≤ a ∧ a < 1000 + σ.2.1 ∧ mxfit knd v = true then mxpf2 ci k pc loc v a r σ (σ.1 a) else none
  | _ => none
def mxidx (i : Int32) (n : Nat) : Option Nat := if i < 0 ∨ n ≤ i.toNatClampNeg then none else some i.toNatClampNeg
def mxlen2 (pc : Nat) (loc : mxL) (r : List Value) (σ : mxS) : mxC → Option mxAct
  | .inl (_, n, _) => mxgo pc loc (.int (nI n) :: r) σ
  | .inr _ => none
def mxlen (pc : Nat) (loc : mxL) (st : List Value) (σ : mxS) : Option mxAct := match st with
  | .ref a :: r => if a < 1000 + σ.2.1 then mxlen2 pc loc r σ (σ.1 a) else none
  | _ => none
def mxal3 (pc : Nat) (loc : mxL) (r : List Value) (σ : mxS) (f : Nat → Int32) : Option Nat → Option mxAct
  | some j => mxgo pc loc (.int (f j) :: r) σ
  | none => none
def mxalJ3 (pc : Nat) (loc : mxL) (r : List Value) (σ : mxS) (f : Nat → Int64) : Option Nat → Option mxAct
  | some j => mxgo pc loc (.long (f j) :: r) σ
  | none => none
def mxalA3 (pc : Nat) (loc : mxL) (r : List Value) (σ : mxS) (f : Nat → Option Nat) : Option Nat → Option mxAct
  | some j => mxgo pc loc (va_rf (f j) :: r) σ
  | none => none
def mxas3 (pc : Nat) (loc : mxL) (r : List Value) (σ : mxS) (a t n : Nat) (f : Nat → Int32) (x : Int32) : Option Nat → Option mxAct
  | some j => mxgo pc loc r (mxWr σ a (.inl (t, n, .inl (va_up f j x))))
  | none => none
def mxasJ3 (pc : Nat) (loc : mxL) (r : List Value) (σ : mxS) (a t n : Nat) (f : Nat → Int64) (x : Int64) : Option Nat → Option mxAct
  | some j => mxgo pc loc r (mxWr σ a (.inl (t, n, .inr (.inl (va_up f j x)))))
  | none => none
def mxasA3 (pc : Nat) (loc : mxL) (r : List Value) (σ : mxS) (a t n : Nat) (f : Nat → Option Nat) (v : Nat) : Option Nat → Option mxAct
  | some j => mxgo pc loc r (mxWr σ a (.inl (t, n, .inr (.inr (.inr (.inr (va_up f j (some v))))))))
  | none => none
/-- kinds of rows: 0 int, 1 long, 2 byte, 3 boolean, 4 of Kind, 5 of Order, 6 of String -/
def mxal2 (ok : Nat → Bool) (pc : Nat) (loc : mxL) (i : Int32) (r : List Value) (σ : mxS) : mxC → Option mxAct
  | .inl (t, n, .inl f) => if ok t = true then mxal3 pc loc r σ f (mxidx i n) else none
  | _ => none
def mxal (ok : Nat → Bool) (pc : Nat) (loc : mxL) (st : List Value) (σ : mxS) : Option mxAct := match st with
  | .int i :: .ref a :: r => if a < 1000 + σ.2.1 then mxal2 ok pc loc i r σ (σ.1 a) else none
  | _ => none
def mxalJ2 (pc : Nat) (loc : mxL) (i : Int32) (r : List Value) (σ : mxS) : mxC → Option mxAct
  | .inl (t, n, .inr (.inl f)) => if t = 1 then mxalJ3 pc loc r σ f (mxidx i n) else none
  | _ => none
def mxalJ (pc : Nat) (loc : mxL) (st : List Value) (σ : mxS) : Option mxAct := match st with
  | .int i :: .ref a :: r => if a < 1000 + σ.2.1 then mxalJ2 pc loc i r σ (σ.1 a) else none
  | _ => none
def mxalA2 (pc : Nat) (loc : mxL) (i : Int32) (r : List Value) (σ : mxS) : mxC → Option mxAct
  | .inl (t, n, .inr (.inr (.inr (.inr f)))) => if 4 ≤ t ∧ t ≤ 6 then mxalA3 pc loc r σ f (mxidx i n) else none
  | _ => none
def mxalA (pc : Nat) (loc : mxL) (st : List Value) (σ : mxS) : Option mxAct := match st with
  | .int i :: .ref a :: r => if a < 1000 + σ.2.1 then mxalA2 pc loc i r σ (σ.1 a) else none
  | _ => none
def mxas2 (ok : Nat → Bool) (g : Int32 → Int32) (pc : Nat) (loc : mxL) (x i : Int32) (a : Nat) (r : List Value) (σ : mxS) : mxC → Option mxAct
  | .inl (t, n, .inl f) => if ok t = true then mxas3 pc loc r σ a t n f (g x) (mxidx i n) else none
  | _ => none
def mxas (ok : Nat → Bool) (g : Int32 → Int32) (pc : Nat) (loc : mxL) (st : List Value) (σ : mxS) : Option mxAct := match st with
  | .int x :: .int i :: .ref a :: r => if 1000 ≤ a ∧ a < 1000 + σ.2.1 then mxas2 ok g pc loc x i a r σ (σ.1 a) else none
  | _ => none
/-- a byte or a boolean is put: which, the row says -/
def mxasB2 (pc : Nat) (loc : mxL) (x i : Int32) (a : Nat) (r : List Value) (σ : mxS) : mxC → Option mxAct
  | .inl (t, n, .inl f) => if t = 2 ∨ (t = 3 ∧ (x = 0 ∨ x = 1)) then mxas3 pc loc r σ a t n f (if t = 2 then x.toInt8.toInt32 else x) (mxidx i n) else none
  | _ => none
def mxasB (pc : Nat) (loc : mxL) (st : List Value) (σ : mxS) : Option mxAct := match st with
  | .int x :: .int i :: .ref a :: r => if 1000 ≤ a ∧ a < 1000 + σ.2.1 then mxasB2 pc loc x i a r σ (σ.1 a) else none
  | _ => none
def mxasJ2 (pc : Nat) (loc : mxL) (x : Int64) (i : Int32) (a : Nat) (r : List Value) (σ : mxS) : mxC → Option mxAct
  | .inl (t, n, .inr (.inl f)) => if t = 1 then mxasJ3 pc loc r σ a t n f x (mxidx i n) else none
  | _ => none
def mxasJ (pc : Nat) (loc : mxL) (st : List Value) (σ : mxS) : Option mxAct := match st with
  | .long x :: .int i :: .ref a :: r => if 1000 ≤ a ∧ a < 1000 + σ.2.1 then mxasJ2 pc loc x i a r σ (σ.1 a) else none
  | _ => none
/-- a reference is put: a constant of the enum into a row of them, an order into a row of orders -/
def mxelt (σ : mxS) (t v : Nat) : Bool := (t == 4 && decide (v < 47)) || (t == 5 && decide (1000 ≤ v ∧ v < 1000 + σ.2.1) && (match σ.1 v with | .inr (ci, _) => ci == 1 | _ => false))
def mxasA2 (pc : Nat) (loc : mxL) (v : Nat) (i : Int32) (a : Nat) (r : List Value) (σ : mxS) : mxC → Option mxAct
  | .inl (t, n, .inr (.inr (.inr (.inr f)))) => if mxelt σ t v = true then mxasA3 pc loc r σ a t n f v (mxidx i n) else none
  | _ => none
def mxasA (pc : Nat) (loc : mxL) (st : List Value) (σ : mxS) : Option mxAct := match st with
  | .ref v :: .int i :: .ref a :: r => if 1000 ≤ a ∧ a < 1000 + σ.2.1 then mxasA2 pc loc v i a r σ (σ.1 a) else none
  | _ => none
def mxnew (ci : Nat) (fs : List Value) (pc : Nat) (loc : mxL) (st : List Value) (σ : mxS) : Option mxAct := mxgo pc loc (.ref (1000 + σ.2.1) :: st) (mxAl σ (.inr (ci, fs)) fs.length)
/-- the contents of a fresh row of a kind -/
def mxzero : Nat → (Nat → Int32) ⊕ (Nat → Int64) ⊕ (Nat → UInt32) ⊕ (Nat → UInt64) ⊕ (Nat → Option Nat)
  | 0 => .inl (fun _ => 0)
  | 1 => .inr (.inl (fun _ => 0))
  | 2 => .inl (fun _ => 0)
  | 3 => .inl (fun _ => 0)
  | _ => .inr (.inr (.inr (.inr (fun _ => none))))
def mxna2 (t pc : Nat) (loc : mxL) (r : List Value) (σ : mxS) : Option Nat → Option mxAct
  | some k => mxgo pc loc (.ref (1000 + σ.2.1) :: r) (mxAl σ (.inl (t, k, mxzero t)) k)
  | none => none
def mxna (t pc : Nat) (loc : mxL) (st : List Value) (σ : mxS) : Option mxAct := match st with
  | .int n :: r => mxna2 t pc loc r σ (mxidx n 10000)
  | _ => none
def mxcat : List Value → Nat
  | [] => 0
  | v :: l => v.category + mxcat l
/-- n values off the stack, the first of them ahead -/
def mxtk : Nat → List Value → List Value → Option (List Value × List Value)
  | 0, acc, st => some (acc, st)
  | k + 1, acc, v :: st => mxtk k (v :: acc) st
  | _ + 1, _, [] => none
def mxcall2 (y : Nat) : Option (List Value × List Value) → Option mxAct
  | some (as, r) => if mxcat r ≤ 8 then some (.inr (.inr (.inl (y, as, r)))) else none
  | none => none
/-- a call of a static method, n arguments -/
def mxcS (y n : Nat) (st : List Value) : Option mxAct := mxcall2 y (mxtk n [] st)
/-- of a constructor: the object is any reference -/
def mxcI2 (y : Nat) : Option (List Value × List Value) → Option mxAct
  | some (.ref a :: as, r) => if 1000 ≤ a ∧ mxcat r ≤ 8 then some (.inr (.inr (.inl (y, .ref a :: as, r)))) else none
  | _ => none
def mxcI (y n : Nat) (st : List Value) : Option mxAct := mxcI2 y (mxtk (n + 1) [] st)
/-- of a method of objects of the kind ci -/
def mxcV3 (y ci a : Nat) (as r : List Value) : mxC → Option mxAct
  | .inr (cj, _) => if cj = ci then (if mxcat r ≤ 8 then some (.inr (.inr (.inl (y, .ref a :: as, r)))) else none) else none
  | .inl _ => none
def mxcV2 (y ci : Nat) (σ : mxS) : Option (List Value × List Value) → Option mxAct
  | some (.ref a :: as, r) => if a < 1000 + σ.2.1 then mxcV3 y ci a as r (σ.1 a) else none
  | _ => none
def mxcV (y n ci : Nat) (st : List Value) (σ : mxS) : Option mxAct := mxcV2 y ci σ (mxtk (n + 1) [] st)
/-- Object's constructor: nothing -/
def mxoi (pc : Nat) (loc : mxL) (st : List Value) (σ : mxS) : Option mxAct := match st with
  | .ref a :: r => if 1000 ≤ a ∧ mxcat r ≤ 8 then mxgo pc loc r σ else none
  | _ => none
/-- arraycopy between rows of ints -/
def mxcp2 (pc : Nat) (loc : mxL) (n dp sp : Int32) (b : Nat) (r : List Value) (σ : mxS) : mxC → mxC → Option mxAct
  | .inl (0, n0, .inl f), .inl (0, n1, .inl g) => if ¬ sp < 0 ∧ ¬ dp < 0 ∧ ¬ n < 0 ∧ sp.toNatClampNeg + n.toNatClampNeg ≤ n0 ∧ dp.toNatClampNeg + n.toNatClampNeg ≤ n1 ∧ mxcat r ≤ 8 then
      mxgo pc loc r (mxWr σ b (.inl (0, n1, .inl (va_cpy f g sp.toNatClampNeg dp.toNatClampNeg n.toNatClampNeg)))) else none
  | _, _ => none
def mxcp (pc : Nat) (loc : mxL) (st : List Value) (σ : mxS) : Option mxAct := match st with
  | .int n :: .int dp :: .ref b :: .int sp :: .ref a :: r => if 1000 ≤ a ∧ a < 1000 + σ.2.1 ∧ 1000 ≤ b ∧ b < 1000 + σ.2.1 then mxcp2 pc loc n dp sp b r σ (σ.1 a) (σ.1 b) else none
  | _ => none
/-- what a method may answer: 0 an int, 1 a boolean, 2 a byte, 3 a char, 4 a long, 5 a double, 6 a reference, 7 nothing -/
def mxret (k : Nat) (st : List Value) : Option mxAct := match k, st with
  | 0, [.int x] => some (.inr (.inl (some (.int x))))
  | 1, [.int x] => if x = 0 ∨ x = 1 then some (.inr (.inl (some (.int x)))) else none
  | 2, [.int x] => if x.toInt8.toInt32 = x then some (.inr (.inl (some (.int x)))) else none
  | 3, [.int x] => if (x.toUInt32 % 65536).toInt32 = x then some (.inr (.inl (some (.int x)))) else none
  | 4, [.long x] => some (.inr (.inl (some (.long x))))
  | 5, [.double x] => some (.inr (.inl (some (.double x))))
  | 6, [.ref a] => some (.inr (.inl (some (.ref a))))
  | 6, [.null] => some (.inr (.inl (some .null)))
  | 7, [] => some (.inr (.inl none))
  | _, _ => none
/-! ===== tables of the machine, by program out of the claim: who owns what, links by their places in the pools ===== -/
def mxcn (o : Nat) : String := (["RoofPigeons$1", "RoofPigeons$Keeper", "RoofPigeons$Kind", "RoofPigeons$Order", "RoofPigeons$Plan", "RoofPigeons$Sky", "RoofPigeons$SkylineReader", "RoofPigeons$Tape", "RoofPigeons$Tokens", "RoofPigeons", "RoofPigeonsModel$Plan", "RoofPigeonsModel$State", "RoofPigeonsModel", "java/lang/Enum", "java/lang/Math", "java/lang/String", "java/lang/StringLatin1", "java/lang/StringUTF16", "jdk/internal/util/Preconditions", "java/lang/Character", "RoofPigeonsLaw"] : List String).getD o ""
def mxMT0 : List (MethodName × ByteArray × Nat × Option FieldType × Nat) := []
def mxMT1 : List (MethodName × ByteArray × Nat × Option FieldType × Nat) := [(⟨"RoofPigeons$Keeper", "<init>", "()V"⟩, prog_3_method_1_code, 1, none, 7),
  (⟨"RoofPigeons$Keeper", "passDay", "(LRoofPigeons$Plan;LRoofPigeons$Sky;)V"⟩, prog_3_method_2_code, 4, none, 7),
  (⟨"RoofPigeons$Keeper", "isCarriedOut", "(LRoofPigeons$Plan;LRoofPigeons$Order;LRoofPigeons$Sky;)Z"⟩, prog_3_method_3_code, 6, some .boolean, 1),
  (⟨"RoofPigeons$Keeper", "reckon", "(LRoofPigeons$Plan;IILRoofPigeons$Sky;)I"⟩, prog_3_method_4_code, 8, some .int, 0),
  (⟨"RoofPigeons$Keeper", "push", "(I)V"⟩, prog_3_method_5_code, 2, none, 7),
  (⟨"RoofPigeons$Keeper", "pop", "()I"⟩, prog_3_method_6_code, 1, some .int, 0),
  (⟨"RoofPigeons$Keeper", "ofNone", "(LRoofPigeons$Kind;IILRoofPigeons$Sky;)I"⟩, prog_3_method_7_code, 4, some .int, 0),
  (⟨"RoofPigeons$Keeper", "ofOne", "(LRoofPigeons$Kind;ILRoofPigeons$Sky;)I"⟩, prog_3_method_8_code, 3, some .int, 0),
  (⟨"RoofPigeons$Keeper", "ofTwo", "(LRoofPigeons$Kind;II)I"⟩, prog_3_method_9_code, 3, some .int, 0),
  (⟨"RoofPigeons$Keeper", "asNumber", "(Z)I"⟩, prog_3_method_10_code, 1, some .int, 0)]
def mxMT2 : List (MethodName × ByteArray × Nat × Option FieldType × Nat) := []
def mxMT3 : List (MethodName × ByteArray × Nat × Option FieldType × Nat) := [(⟨"RoofPigeons$Order", "<init>", "()V"⟩, prog_5_method_1_code, 1, none, 7)]
def mxMT4 : List (MethodName × ByteArray × Nat × Option FieldType × Nat) := [(⟨"RoofPigeons$Plan", "<init>", "()V"⟩, prog_6_method_1_code, 2, none, 7),
  (⟨"RoofPigeons$Plan", "clear", "()V"⟩, prog_6_method_2_code, 1, none, 7),
  (⟨"RoofPigeons$Plan", "addTower", "(I)V"⟩, prog_6_method_3_code, 2, none, 7),
  (⟨"RoofPigeons$Plan", "addPigeon", "(II)V"⟩, prog_6_method_4_code, 3, none, 7),
  (⟨"RoofPigeons$Plan", "addOrder", "(LRoofPigeons$Kind;IZII)V"⟩, prog_6_method_5_code, 7, none, 7),
  (⟨"RoofPigeons$Plan", "addStep", "(LRoofPigeons$Kind;II)V"⟩, prog_6_method_6_code, 4, none, 7)]
def mxMT5 : List (MethodName × ByteArray × Nat × Option FieldType × Nat) := [(⟨"RoofPigeons$Sky", "<init>", "()V"⟩, prog_7_method_1_code, 1, none, 7),
  (⟨"RoofPigeons$Sky", "beginWith", "(LRoofPigeons$Plan;)V"⟩, prog_7_method_2_code, 2, none, 7),
  (⟨"RoofPigeons$Sky", "copy", "(LRoofPigeons$Sky;)V"⟩, prog_7_method_3_code, 2, none, 7),
  (⟨"RoofPigeons$Sky", "settle", "()V"⟩, prog_7_method_4_code, 1, none, 7),
  (⟨"RoofPigeons$Sky", "findNextTaller", "()V"⟩, prog_7_method_5_code, 4, none, 7),
  (⟨"RoofPigeons$Sky", "lookFromLeft", "()V"⟩, prog_7_method_6_code, 3, none, 7),
  (⟨"RoofPigeons$Sky", "lookFromRight", "()V"⟩, prog_7_method_7_code, 3, none, 7),
  (⟨"RoofPigeons$Sky", "tryToRaise", "(II)Z"⟩, prog_7_method_8_code, 4, some .boolean, 1),
  (⟨"RoofPigeons$Sky", "tryToHop", "(IZ)Z"⟩, prog_7_method_9_code, 5, some .boolean, 1),
  (⟨"RoofPigeons$Sky", "tryToGlide", "(IZ)Z"⟩, prog_7_method_10_code, 5, some .boolean, 1),
  (⟨"RoofPigeons$Sky", "leaveWetTowers", "()V"⟩, prog_7_method_11_code, 2, none, 7),
  (⟨"RoofPigeons$Sky", "nearestDryTower", "(I)I"⟩, prog_7_method_12_code, 3, some .int, 0),
  (⟨"RoofPigeons$Sky", "isWet", "(I)Z"⟩, prog_7_method_13_code, 2, some .boolean, 1),
  (⟨"RoofPigeons$Sky", "towerByRemainder", "(I)I"⟩, prog_7_method_14_code, 2, some .int, 0),
  (⟨"RoofPigeons$Sky", "widestWetRow", "()I"⟩, prog_7_method_15_code, 4, some .int, 0),
  (⟨"RoofPigeons$Sky", "highestTower", "()I"⟩, prog_7_method_16_code, 3, some .int, 0),
  (⟨"RoofPigeons$Sky", "sumOfHeights", "()I"⟩, prog_7_method_17_code, 3, some .int, 0),
  (⟨"RoofPigeons$Sky", "heightUnder", "(I)I"⟩, prog_7_method_18_code, 2, some .int, 0),
  (⟨"RoofPigeons$Sky", "countSittingOn", "(I)I"⟩, prog_7_method_19_code, 4, some .int, 0),
  (⟨"RoofPigeons$Sky", "countHeardOn", "(I)I"⟩, prog_7_method_20_code, 4, some .int, 0),
  (⟨"RoofPigeons$Sky", "isHeardOn", "(II)Z"⟩, prog_7_method_21_code, 5, some .boolean, 1),
  (⟨"RoofPigeons$Sky", "doesHear", "(II)Z"⟩, prog_7_method_22_code, 3, some .boolean, 1),
  (⟨"RoofPigeons$Sky", "noiseFor", "(II)I"⟩, prog_7_method_23_code, 5, some .int, 0),
  (⟨"RoofPigeons$Sky", "pigeonWithLeastNoise", "()I"⟩, prog_7_method_24_code, 5, some .int, 0),
  (⟨"RoofPigeons$Sky", "towerWithLeastNoiseFor", "(I)I"⟩, prog_7_method_25_code, 6, some .int, 0)]
def mxMT6 : List (MethodName × ByteArray × Nat × Option FieldType × Nat) := [(⟨"RoofPigeons$SkylineReader", "<init>", "(LRoofPigeons$Tokens;LRoofPigeons$Plan;)V"⟩, prog_8_method_1_code, 3, none, 7),
  (⟨"RoofPigeons$SkylineReader", "read", "()I"⟩, prog_8_method_2_code, 1, some .int, 0),
  (⟨"RoofPigeons$SkylineReader", "handOver", "(LRoofPigeons$Plan;)LRoofPigeons$Plan;"⟩, prog_8_method_3_code, 3, some (.object "RoofPigeons$Plan"), 6),
  (⟨"RoofPigeons$SkylineReader", "skip", "()V"⟩, prog_8_method_4_code, 1, none, 7),
  (⟨"RoofPigeons$SkylineReader", "take", "(LRoofPigeons$Kind;)Z"⟩, prog_8_method_5_code, 2, some .boolean, 1),
  (⟨"RoofPigeons$SkylineReader", "takeDeeper", "(LRoofPigeons$Kind;I)Z"⟩, prog_8_method_6_code, 3, some .boolean, 1),
  (⟨"RoofPigeons$SkylineReader", "note", "(I)V"⟩, prog_8_method_7_code, 2, none, 7),
  (⟨"RoofPigeons$SkylineReader", "takeRoofs", "()Z"⟩, prog_8_method_8_code, 3, some .boolean, 1),
  (⟨"RoofPigeons$SkylineReader", "takeLines", "()Z"⟩, prog_8_method_9_code, 3, some .boolean, 1),
  (⟨"RoofPigeons$SkylineReader", "takePigeon", "()Z"⟩, prog_8_method_10_code, 2, some .boolean, 1),
  (⟨"RoofPigeons$SkylineReader", "takeNewName", "()V"⟩, prog_8_method_11_code, 2, none, 7),
  (⟨"RoofPigeons$SkylineReader", "takeNumber", "(II)I"⟩, prog_8_method_12_code, 4, some .int, 0),
  (⟨"RoofPigeons$SkylineReader", "takeKnownName", "()I"⟩, prog_8_method_13_code, 3, some .int, 0),
  (⟨"RoofPigeons$SkylineReader", "takeOrder", "()Z"⟩, prog_8_method_14_code, 8, some .boolean, 1),
  (⟨"RoofPigeons$SkylineReader", "takeSide", "()Z"⟩, prog_8_method_15_code, 1, some .boolean, 1),
  (⟨"RoofPigeons$SkylineReader", "takeTest", "(I)Z"⟩, prog_8_method_16_code, 3, some .boolean, 1),
  (⟨"RoofPigeons$SkylineReader", "takeBoth", "(I)Z"⟩, prog_8_method_17_code, 3, some .boolean, 1),
  (⟨"RoofPigeons$SkylineReader", "takeSingle", "(I)Z"⟩, prog_8_method_18_code, 5, some .boolean, 1),
  (⟨"RoofPigeons$SkylineReader", "takeComparison", "(I)Z"⟩, prog_8_method_19_code, 3, some .boolean, 1),
  (⟨"RoofPigeons$SkylineReader", "takeSum", "(I)Z"⟩, prog_8_method_20_code, 4, some .boolean, 1),
  (⟨"RoofPigeons$SkylineReader", "takeProduct", "(I)Z"⟩, prog_8_method_21_code, 4, some .boolean, 1),
  (⟨"RoofPigeons$SkylineReader", "takeValue", "(I)Z"⟩, prog_8_method_22_code, 4, some .boolean, 1),
  (⟨"RoofPigeons$SkylineReader", "takeFunction", "(I)Z"⟩, prog_8_method_23_code, 3, some .boolean, 1)]
def mxMT7 : List (MethodName × ByteArray × Nat × Option FieldType × Nat) := [(⟨"RoofPigeons$Tape", "<init>", "()V"⟩, prog_9_method_1_code, 1, none, 7),
  (⟨"RoofPigeons$Tape", "hasRoomFor", "(I)Z"⟩, prog_9_method_2_code, 2, some .boolean, 1),
  (⟨"RoofPigeons$Tape", "append", "(I)V"⟩, prog_9_method_3_code, 3, none, 7),
  (⟨"RoofPigeons$Tape", "byteAt", "(I)I"⟩, prog_9_method_4_code, 2, some .int, 0),
  (⟨"RoofPigeons$Tape", "hasLetterAt", "(I)Z"⟩, prog_9_method_5_code, 3, some .boolean, 1),
  (⟨"RoofPigeons$Tape", "hasDigitAt", "(I)Z"⟩, prog_9_method_6_code, 3, some .boolean, 1),
  (⟨"RoofPigeons$Tape", "hasBlankAt", "(I)Z"⟩, prog_9_method_7_code, 3, some .boolean, 1)]
def mxMT8 : List (MethodName × ByteArray × Nat × Option FieldType × Nat) := [(⟨"RoofPigeons$Tokens", "<init>", "(LRoofPigeons$Tape;)V"⟩, prog_10_method_1_code, 3, none, 7),
  (⟨"RoofPigeons$Tokens", "readAll", "()V"⟩, prog_10_method_2_code, 6, none, 7),
  (⟨"RoofPigeons$Tokens", "endOfBlanks", "(I)I"⟩, prog_10_method_3_code, 3, some .int, 0),
  (⟨"RoofPigeons$Tokens", "endOfToken", "(I)I"⟩, prog_10_method_4_code, 5, some .int, 0),
  (⟨"RoofPigeons$Tokens", "kindOf", "(II)LRoofPigeons$Kind;"⟩, prog_10_method_5_code, 7, some (.object "RoofPigeons$Kind"), 6),
  (⟨"RoofPigeons$Tokens", "isSpelled", "(Ljava/lang/String;II)Z"⟩, prog_10_method_6_code, 5, some .boolean, 1),
  (⟨"RoofPigeons$Tokens", "valueOf", "(LRoofPigeons$Kind;II)J"⟩, prog_10_method_7_code, 4, some .long, 4),
  (⟨"RoofPigeons$Tokens", "numberBetween", "(II)I"⟩, prog_10_method_8_code, 5, some .int, 0),
  (⟨"RoofPigeons$Tokens", "nameBetween", "(II)J"⟩, prog_10_method_9_code, 7, some .long, 4)]
def mxMT9 : List (MethodName × ByteArray × Nat × Option FieldType × Nat) := [(⟨"RoofPigeons", "<init>", "()V"⟩, prog_1_method_1_code, 1, none, 7),
  (⟨"RoofPigeons", "feed", "(IIIII)I"⟩, prog_1_method_2_code, 6, some .int, 0),
  (⟨"RoofPigeons", "trim", "(I)I"⟩, prog_1_method_3_code, 2, some .int, 0),
  (⟨"RoofPigeons", "teach", "()I"⟩, prog_1_method_4_code, 2, some .int, 0),
  (⟨"RoofPigeons", "errorAt", "()I"⟩, prog_1_method_5_code, 1, some .int, 0),
  (⟨"RoofPigeons", "towers", "()I"⟩, prog_1_method_6_code, 1, some .int, 0),
  (⟨"RoofPigeons", "pigeons", "()I"⟩, prog_1_method_7_code, 1, some .int, 0),
  (⟨"RoofPigeons", "day", "()I"⟩, prog_1_method_8_code, 1, some .int, 0),
  (⟨"RoofPigeons", "ordersCarriedOut", "()I"⟩, prog_1_method_9_code, 1, some .int, 0),
  (⟨"RoofPigeons", "trapped", "()I"⟩, prog_1_method_10_code, 1, some .int, 0),
  (⟨"RoofPigeons", "wetTowers", "()I"⟩, prog_1_method_11_code, 1, some .int, 0),
  (⟨"RoofPigeons", "widestPool", "()I"⟩, prog_1_method_12_code, 1, some .int, 0),
  (⟨"RoofPigeons", "highest", "()I"⟩, prog_1_method_13_code, 1, some .int, 0),
  (⟨"RoofPigeons", "seenFromLeft", "()I"⟩, prog_1_method_14_code, 1, some .int, 0),
  (⟨"RoofPigeons", "seenFromRight", "()I"⟩, prog_1_method_15_code, 1, some .int, 0),
  (⟨"RoofPigeons", "heightOf", "(I)I"⟩, prog_1_method_16_code, 2, some .int, 0),
  (⟨"RoofPigeons", "isSeenFromLeft", "(I)Z"⟩, prog_1_method_17_code, 2, some .boolean, 1),
  (⟨"RoofPigeons", "nextTallerLeft", "(I)I"⟩, prog_1_method_18_code, 2, some .int, 0),
  (⟨"RoofPigeons", "nextTallerRight", "(I)I"⟩, prog_1_method_19_code, 2, some .int, 0),
  (⟨"RoofPigeons", "waterOn", "(I)I"⟩, prog_1_method_20_code, 2, some .int, 0),
  (⟨"RoofPigeons", "pigeonsOn", "(I)I"⟩, prog_1_method_21_code, 2, some .int, 0),
  (⟨"RoofPigeons", "heardOn", "(I)I"⟩, prog_1_method_22_code, 2, some .int, 0),
  (⟨"RoofPigeons", "placeOf", "(I)I"⟩, prog_1_method_23_code, 2, some .int, 0),
  (⟨"RoofPigeons", "loudnessOf", "(I)I"⟩, prog_1_method_24_code, 2, some .int, 0),
  (⟨"RoofPigeons", "hears", "(II)Z"⟩, prog_1_method_25_code, 3, some .boolean, 1),
  (⟨"RoofPigeons", "noiseAt", "(I)I"⟩, prog_1_method_26_code, 2, some .int, 0),
  (⟨"RoofPigeons", "quietest", "()I"⟩, prog_1_method_27_code, 1, some .int, 0),
  (⟨"RoofPigeons", "hop", "(IZ)I"⟩, prog_1_method_28_code, 3, some .int, 0),
  (⟨"RoofPigeons", "glide", "(IZ)I"⟩, prog_1_method_29_code, 3, some .int, 0),
  (⟨"RoofPigeons", "build", "(I)I"⟩, prog_1_method_30_code, 2, some .int, 0),
  (⟨"RoofPigeons", "wear", "(I)I"⟩, prog_1_method_31_code, 2, some .int, 0),
  (⟨"RoofPigeons", "passDays", "(I)I"⟩, prog_1_method_32_code, 4, some .int, 0),
  (⟨"RoofPigeons", "trappedAfter", "(I)I"⟩, prog_1_method_33_code, 3, some .int, 0),
  (⟨"RoofPigeons", "daysUntilHeard", "(II)I"⟩, prog_1_method_34_code, 4, some .int, 0),
  (⟨"RoofPigeons", "trappedWith", "(II)I"⟩, prog_1_method_35_code, 3, some .int, 0),
  (⟨"RoofPigeons", "bestToBuild", "()I"⟩, prog_1_method_36_code, 4, some .int, 0),
  (⟨"RoofPigeons", "quietestTower", "(I)I"⟩, prog_1_method_37_code, 2, some .int, 0),
  (⟨"RoofPigeons", "meanHeight", "()D"⟩, prog_1_method_38_code, 1, some .double, 5),
  (⟨"RoofPigeons", "digest", "()J"⟩, prog_1_method_39_code, 3, some .long, 4),
  (⟨"RoofPigeons", "digestWithTowers", "(J)J"⟩, prog_1_method_40_code, 6, some .long, 4),
  (⟨"RoofPigeons", "digestWithPigeons", "(J)J"⟩, prog_1_method_41_code, 6, some .long, 4),
  (⟨"RoofPigeons", "needTower", "(I)V"⟩, prog_1_method_42_code, 2, none, 7),
  (⟨"RoofPigeons", "needPigeon", "(I)V"⟩, prog_1_method_43_code, 2, none, 7),
  (⟨"RoofPigeons", "needDays", "(I)V"⟩, prog_1_method_44_code, 2, none, 7)]
def mxMT10 : List (MethodName × ByteArray × Nat × Option FieldType × Nat) := [(⟨"RoofPigeonsModel$Plan", "<init>", "()V"⟩, prog_13_method_1_code, 1, none, 7)]
def mxMT11 : List (MethodName × ByteArray × Nat × Option FieldType × Nat) := [(⟨"RoofPigeonsModel$State", "<init>", "(LRoofPigeonsModel;)V"⟩, prog_14_method_1_code, 2, none, 7),
  (⟨"RoofPigeonsModel$State", "become", "(LRoofPigeonsModel$State;)LRoofPigeonsModel$State;"⟩, prog_14_method_2_code, 2, some (.object "RoofPigeonsModel$State"), 6),
  (⟨"RoofPigeonsModel$State", "begin", "()V"⟩, prog_14_method_3_code, 1, none, 7),
  (⟨"RoofPigeonsModel$State", "by", "(IZ)I"⟩, prog_14_method_4_code, 3, some .int, 0),
  (⟨"RoofPigeonsModel$State", "highestBeyond", "(IZ)I"⟩, prog_14_method_5_code, 5, some .int, 0),
  (⟨"RoofPigeonsModel$State", "isSeen", "(IZ)Z"⟩, prog_14_method_6_code, 3, some .boolean, 1),
  (⟨"RoofPigeonsModel$State", "seen", "(Z)I"⟩, prog_14_method_7_code, 4, some .int, 0),
  (⟨"RoofPigeonsModel$State", "taller", "(IZ)I"⟩, prog_14_method_8_code, 4, some .int, 0),
  (⟨"RoofPigeonsModel$State", "water", "(I)I"⟩, prog_14_method_9_code, 2, some .int, 0),
  (⟨"RoofPigeonsModel$State", "rain", "()I"⟩, prog_14_method_10_code, 3, some .int, 0),
  (⟨"RoofPigeonsModel$State", "rainWith", "(II)I"⟩, prog_14_method_11_code, 5, some .int, 0),
  (⟨"RoofPigeonsModel$State", "wet", "()I"⟩, prog_14_method_12_code, 3, some .int, 0),
  (⟨"RoofPigeonsModel$State", "pool", "()I"⟩, prog_14_method_13_code, 4, some .int, 0),
  (⟨"RoofPigeonsModel$State", "top", "()I"⟩, prog_14_method_14_code, 3, some .int, 0),
  (⟨"RoofPigeonsModel$State", "toBuild", "()I"⟩, prog_14_method_15_code, 5, some .int, 0),
  (⟨"RoofPigeonsModel$State", "on", "(I)I"⟩, prog_14_method_16_code, 4, some .int, 0),
  (⟨"RoofPigeonsModel$State", "isHeard", "(II)Z"⟩, prog_14_method_17_code, 5, some .boolean, 1),
  (⟨"RoofPigeonsModel$State", "heard", "(I)I"⟩, prog_14_method_18_code, 4, some .int, 0),
  (⟨"RoofPigeonsModel$State", "hears", "(II)Z"⟩, prog_14_method_19_code, 3, some .boolean, 1),
  (⟨"RoofPigeonsModel$State", "noiseOn", "(II)I"⟩, prog_14_method_20_code, 5, some .int, 0),
  (⟨"RoofPigeonsModel$State", "noise", "(I)I"⟩, prog_14_method_21_code, 2, some .int, 0),
  (⟨"RoofPigeonsModel$State", "quiet", "()I"⟩, prog_14_method_22_code, 3, some .int, 0),
  (⟨"RoofPigeonsModel$State", "quietTower", "(I)I"⟩, prog_14_method_23_code, 4, some .int, 0),
  (⟨"RoofPigeonsModel$State", "goal", "(IIZ)I"⟩, prog_14_method_24_code, 5, some .int, 0),
  (⟨"RoofPigeonsModel$State", "canChange", "(II)Z"⟩, prog_14_method_25_code, 3, some .boolean, 1),
  (⟨"RoofPigeonsModel$State", "change", "(II)V"⟩, prog_14_method_26_code, 3, none, 7),
  (⟨"RoofPigeonsModel$State", "rest", "(I)I"⟩, prog_14_method_27_code, 2, some .int, 0),
  (⟨"RoofPigeonsModel$State", "told", "(II)I"⟩, prog_14_method_28_code, 3, some .int, 0),
  (⟨"RoofPigeonsModel$State", "reckon", "(II)I"⟩, prog_14_method_29_code, 8, some .int, 0),
  (⟨"RoofPigeonsModel$State", "carry", "(I)Z"⟩, prog_14_method_30_code, 5, some .boolean, 1),
  (⟨"RoofPigeonsModel$State", "flee", "(I)V"⟩, prog_14_method_31_code, 5, none, 7),
  (⟨"RoofPigeonsModel$State", "pass", "(I)LRoofPigeonsModel$State;"⟩, prog_14_method_32_code, 5, some (.object "RoofPigeonsModel$State"), 6),
  (⟨"RoofPigeonsModel$State", "untilHears", "(II)I"⟩, prog_14_method_33_code, 4, some .int, 0)]
def mxMT12 : List (MethodName × ByteArray × Nat × Option FieldType × Nat) := [(⟨"RoofPigeonsModel", "<init>", "()V"⟩, prog_12_method_1_code, 1, none, 7),
  (⟨"RoofPigeonsModel", "thrown", "()I"⟩, prog_12_method_2_code, 1, some .int, 0),
  (⟨"RoofPigeonsModel", "no", "(I)I"⟩, prog_12_method_3_code, 2, some .int, 0),
  (⟨"RoofPigeonsModel", "ok", "(I)I"⟩, prog_12_method_5_code, 2, some .int, 0),
  (⟨"RoofPigeonsModel", "isIn", "(III)Z"⟩, prog_12_method_6_code, 3, some .boolean, 1),
  (⟨"RoofPigeonsModel", "isTower", "(I)Z"⟩, prog_12_method_7_code, 2, some .boolean, 1),
  (⟨"RoofPigeonsModel", "isPigeon", "(I)Z"⟩, prog_12_method_8_code, 2, some .boolean, 1),
  (⟨"RoofPigeonsModel", "ahead", "()LRoofPigeonsModel$State;"⟩, prog_12_method_9_code, 1, some (.object "RoofPigeonsModel$State"), 6),
  (⟨"RoofPigeonsModel", "both", "(III)I"⟩, prog_12_method_10_code, 3, some .int, 0),
  (⟨"RoofPigeonsModel", "isLetter", "(I)Z"⟩, prog_12_method_11_code, 1, some .boolean, 1),
  (⟨"RoofPigeonsModel", "isDigit", "(I)Z"⟩, prog_12_method_12_code, 1, some .boolean, 1),
  (⟨"RoofPigeonsModel", "byteOf", "(I)I"⟩, prog_12_method_13_code, 2, some .int, 0),
  (⟨"RoofPigeonsModel", "kindAt", "(II)I"⟩, prog_12_method_14_code, 6, some .int, 0),
  (⟨"RoofPigeonsModel", "word", "(II)I"⟩, prog_12_method_15_code, 6, some .int, 0),
  (⟨"RoofPigeonsModel", "cut", "()V"⟩, prog_12_method_16_code, 3, none, 7),
  (⟨"RoofPigeonsModel", "is", "(I)Z"⟩, prog_12_method_17_code, 2, some .boolean, 1),
  (⟨"RoofPigeonsModel", "isSign", "(C)Z"⟩, prog_12_method_18_code, 2, some .boolean, 1),
  (⟨"RoofPigeonsModel", "eat", "(I)Z"⟩, prog_12_method_19_code, 2, some .boolean, 1),
  (⟨"RoofPigeonsModel", "eatSign", "(C)Z"⟩, prog_12_method_20_code, 2, some .boolean, 1),
  (⟨"RoofPigeonsModel", "eatAs", "(II)Z"⟩, prog_12_method_21_code, 3, some .boolean, 1),
  (⟨"RoofPigeonsModel", "put", "(I)V"⟩, prog_12_method_22_code, 2, none, 7),
  (⟨"RoofPigeonsModel", "isBook", "()Z"⟩, prog_12_method_23_code, 1, some .boolean, 1),
  (⟨"RoofPigeonsModel", "isLine", "()Z"⟩, prog_12_method_24_code, 2, some .boolean, 1),
  (⟨"RoofPigeonsModel", "isOrder", "(I)Z"⟩, prog_12_method_25_code, 3, some .boolean, 1),
  (⟨"RoofPigeonsModel", "isTest", "()Z"⟩, prog_12_method_26_code, 1, some .boolean, 1),
  (⟨"RoofPigeonsModel", "isBoth", "()Z"⟩, prog_12_method_27_code, 1, some .boolean, 1),
  (⟨"RoofPigeonsModel", "isDeeper", "()Z"⟩, prog_12_method_28_code, 1, some .boolean, 1),
  (⟨"RoofPigeonsModel", "isName", "(I)Z"⟩, prog_12_method_29_code, 2, some .boolean, 1),
  (⟨"RoofPigeonsModel", "isNamed", "(I)Z"⟩, prog_12_method_30_code, 2, some .boolean, 1),
  (⟨"RoofPigeonsModel", "isSingle", "()Z"⟩, prog_12_method_31_code, 2, some .boolean, 1),
  (⟨"RoofPigeonsModel", "isSum", "()Z"⟩, prog_12_method_32_code, 2, some .boolean, 1),
  (⟨"RoofPigeonsModel", "isProduct", "()Z"⟩, prog_12_method_33_code, 2, some .boolean, 1),
  (⟨"RoofPigeonsModel", "isInside", "(IZ)Z"⟩, prog_12_method_34_code, 3, some .boolean, 1),
  (⟨"RoofPigeonsModel", "isValue", "()Z"⟩, prog_12_method_35_code, 2, some .boolean, 1),
  (⟨"RoofPigeonsModel", "numberAt", "(I)I"⟩, prog_12_method_36_code, 4, some .int, 0),
  (⟨"RoofPigeonsModel", "isSame", "(II)Z"⟩, prog_12_method_37_code, 4, some .boolean, 1),
  (⟨"RoofPigeonsModel", "told", "(II)I"⟩, prog_12_method_38_code, 5, some .int, 0),
  (⟨"RoofPigeonsModel", "look", "(II)I"⟩, prog_12_method_39_code, 3, some .int, 0),
  (⟨"RoofPigeonsModel", "isNew", "(III)I"⟩, prog_12_method_40_code, 4, some .int, 0),
  (⟨"RoofPigeonsModel", "inRange", "(III)I"⟩, prog_12_method_41_code, 4, some .int, 0),
  (⟨"RoofPigeonsModel", "newRoof", "(I)I"⟩, prog_12_method_42_code, 2, some .int, 0),
  (⟨"RoofPigeonsModel", "newPigeon", "(I)I"⟩, prog_12_method_43_code, 3, some .int, 0),
  (⟨"RoofPigeonsModel", "newOrder", "(I)I"⟩, prog_12_method_44_code, 2, some .int, 0),
  (⟨"RoofPigeonsModel", "ofOrder", "(I)I"⟩, prog_12_method_45_code, 3, some .int, 0),
  (⟨"RoofPigeonsModel", "errorOf", "(I)I"⟩, prog_12_method_46_code, 2, some .int, 0),
  (⟨"RoofPigeonsModel", "read", "()I"⟩, prog_12_method_47_code, 3, some .int, 0),
  (⟨"RoofPigeonsModel", "feed", "(IIIII)I"⟩, prog_12_method_48_code, 8, some .int, 0),
  (⟨"RoofPigeonsModel", "trim", "(I)I"⟩, prog_12_method_49_code, 2, some .int, 0),
  (⟨"RoofPigeonsModel", "teach", "()I"⟩, prog_12_method_50_code, 2, some .int, 0),
  (⟨"RoofPigeonsModel", "errorAt", "()I"⟩, prog_12_method_51_code, 1, some .int, 0),
  (⟨"RoofPigeonsModel", "towers", "()I"⟩, prog_12_method_52_code, 1, some .int, 0),
  (⟨"RoofPigeonsModel", "pigeons", "()I"⟩, prog_12_method_53_code, 1, some .int, 0),
  (⟨"RoofPigeonsModel", "day", "()I"⟩, prog_12_method_54_code, 1, some .int, 0),
  (⟨"RoofPigeonsModel", "ordersCarriedOut", "()I"⟩, prog_12_method_55_code, 1, some .int, 0),
  (⟨"RoofPigeonsModel", "trapped", "()I"⟩, prog_12_method_56_code, 1, some .int, 0),
  (⟨"RoofPigeonsModel", "wetTowers", "()I"⟩, prog_12_method_57_code, 1, some .int, 0),
  (⟨"RoofPigeonsModel", "widestPool", "()I"⟩, prog_12_method_58_code, 1, some .int, 0),
  (⟨"RoofPigeonsModel", "highest", "()I"⟩, prog_12_method_59_code, 1, some .int, 0),
  (⟨"RoofPigeonsModel", "seenFromLeft", "()I"⟩, prog_12_method_60_code, 1, some .int, 0),
  (⟨"RoofPigeonsModel", "seenFromRight", "()I"⟩, prog_12_method_61_code, 1, some .int, 0),
  (⟨"RoofPigeonsModel", "isKnown", "(Z)Z"⟩, prog_12_method_62_code, 2, some .boolean, 1),
  (⟨"RoofPigeonsModel", "heightOf", "(I)I"⟩, prog_12_method_63_code, 2, some .int, 0),
  (⟨"RoofPigeonsModel", "isSeenFromLeft", "(I)Z"⟩, prog_12_method_64_code, 2, some .boolean, 1),
  (⟨"RoofPigeonsModel", "nextTallerLeft", "(I)I"⟩, prog_12_method_65_code, 2, some .int, 0),
  (⟨"RoofPigeonsModel", "nextTallerRight", "(I)I"⟩, prog_12_method_66_code, 2, some .int, 0),
  (⟨"RoofPigeonsModel", "waterOn", "(I)I"⟩, prog_12_method_67_code, 2, some .int, 0),
  (⟨"RoofPigeonsModel", "pigeonsOn", "(I)I"⟩, prog_12_method_68_code, 2, some .int, 0),
  (⟨"RoofPigeonsModel", "heardOn", "(I)I"⟩, prog_12_method_69_code, 2, some .int, 0),
  (⟨"RoofPigeonsModel", "placeOf", "(I)I"⟩, prog_12_method_70_code, 2, some .int, 0),
  (⟨"RoofPigeonsModel", "loudnessOf", "(I)I"⟩, prog_12_method_71_code, 2, some .int, 0),
  (⟨"RoofPigeonsModel", "hears", "(II)Z"⟩, prog_12_method_72_code, 3, some .boolean, 1),
  (⟨"RoofPigeonsModel", "noiseAt", "(I)I"⟩, prog_12_method_73_code, 2, some .int, 0),
  (⟨"RoofPigeonsModel", "quietest", "()I"⟩, prog_12_method_74_code, 1, some .int, 0),
  (⟨"RoofPigeonsModel", "go", "(IIZ)I"⟩, prog_12_method_75_code, 5, some .int, 0),
  (⟨"RoofPigeonsModel", "hop", "(IZ)I"⟩, prog_12_method_76_code, 3, some .int, 0),
  (⟨"RoofPigeonsModel", "glide", "(IZ)I"⟩, prog_12_method_77_code, 3, some .int, 0),
  (⟨"RoofPigeonsModel", "change", "(II)I"⟩, prog_12_method_78_code, 3, some .int, 0),
  (⟨"RoofPigeonsModel", "build", "(I)I"⟩, prog_12_method_79_code, 2, some .int, 0),
  (⟨"RoofPigeonsModel", "wear", "(I)I"⟩, prog_12_method_80_code, 2, some .int, 0),
  (⟨"RoofPigeonsModel", "passDays", "(I)I"⟩, prog_12_method_81_code, 3, some .int, 0),
  (⟨"RoofPigeonsModel", "trappedAfter", "(I)I"⟩, prog_12_method_82_code, 2, some .int, 0),
  (⟨"RoofPigeonsModel", "daysUntilHeard", "(II)I"⟩, prog_12_method_83_code, 3, some .int, 0),
  (⟨"RoofPigeonsModel", "trappedWith", "(II)I"⟩, prog_12_method_84_code, 3, some .int, 0),
  (⟨"RoofPigeonsModel", "bestToBuild", "()I"⟩, prog_12_method_85_code, 1, some .int, 0),
  (⟨"RoofPigeonsModel", "quietestTower", "(I)I"⟩, prog_12_method_86_code, 2, some .int, 0),
  (⟨"RoofPigeonsModel", "meanHeight", "()D"⟩, prog_12_method_87_code, 3, some .double, 5),
  (⟨"RoofPigeonsModel", "digest", "()J"⟩, prog_12_method_88_code, 10, some .long, 4)]
def mxMT13 : List (MethodName × ByteArray × Nat × Option FieldType × Nat) := [(⟨"java/lang/Enum", "ordinal", "()I"⟩, prog_16_method_2_code, 1, some .int, 0)]
def mxMT14 : List (MethodName × ByteArray × Nat × Option FieldType × Nat) := [(⟨"java/lang/Math", "floorMod", "(II)I"⟩, prog_21_method_50_code, 3, some .int, 0),
  (⟨"java/lang/Math", "max", "(II)I"⟩, prog_21_method_65_code, 2, some .int, 0),
  (⟨"java/lang/Math", "min", "(II)I"⟩, prog_21_method_69_code, 2, some .int, 0)]
def mxMT15 : List (MethodName × ByteArray × Nat × Option FieldType × Nat) := [(⟨"java/lang/String", "length", "()I"⟩, prog_23_method_54_code, 1, some .int, 0),
  (⟨"java/lang/String", "charAt", "(I)C"⟩, prog_23_method_56_code, 2, some .char, 3),
  (⟨"java/lang/String", "indexOf", "(I)I"⟩, prog_23_method_79_code, 2, some .int, 0),
  (⟨"java/lang/String", "indexOf", "(II)I"⟩, prog_23_method_80_code, 3, some .int, 0),
  (⟨"java/lang/String", "coder", "()B"⟩, prog_23_method_152_code, 1, some .byte, 2),
  (⟨"java/lang/String", "isLatin1", "()Z"⟩, prog_23_method_154_code, 1, some .boolean, 1),
  (⟨"java/lang/String", "checkIndex", "(II)V"⟩, prog_23_method_155_code, 2, none, 7),
  (⟨"java/lang/String", "checkBoundsBeginEnd", "(III)V"⟩, prog_23_method_158_code, 3, none, 7)]
def mxMT16 : List (MethodName × ByteArray × Nat × Option FieldType × Nat) := [(⟨"java/lang/StringLatin1", "charAt", "([BI)C"⟩, prog_24_method_2_code, 2, some .char, 3),
  (⟨"java/lang/StringLatin1", "canEncode", "(I)Z"⟩, prog_24_method_4_code, 1, some .boolean, 1),
  (⟨"java/lang/StringLatin1", "indexOf", "([BIII)I"⟩, prog_24_method_22_code, 4, some .int, 0),
  (⟨"java/lang/StringLatin1", "indexOfChar", "([BIII)I"⟩, prog_24_method_23_code, 6, some .int, 0)]
def mxMT17 : List (MethodName × ByteArray × Nat × Option FieldType × Nat) := [(⟨"java/lang/StringUTF16", "getChar", "([BI)C"⟩, prog_25_method_5_code, 2, some .char, 3),
  (⟨"java/lang/StringUTF16", "length", "([B)I"⟩, prog_25_method_6_code, 1, some .int, 0),
  (⟨"java/lang/StringUTF16", "indexOf", "([BIII)I"⟩, prog_25_method_40_code, 4, some .int, 0),
  (⟨"java/lang/StringUTF16", "indexOfChar", "([BIII)I"⟩, prog_25_method_47_code, 4, some .int, 0),
  (⟨"java/lang/StringUTF16", "indexOfCharUnsafe", "([BIII)I"⟩, prog_25_method_48_code, 5, some .int, 0),
  (⟨"java/lang/StringUTF16", "indexOfSupplementary", "([BIII)I"⟩, prog_25_method_49_code, 7, some .int, 0),
  (⟨"java/lang/StringUTF16", "charAt", "([BI)C"⟩, prog_25_method_83_code, 2, some .char, 3),
  (⟨"java/lang/StringUTF16", "checkIndex", "(I[B)V"⟩, prog_25_method_91_code, 2, none, 7),
  (⟨"java/lang/StringUTF16", "checkBoundsBeginEnd", "(II[B)V"⟩, prog_25_method_93_code, 3, none, 7)]
def mxMT18 : List (MethodName × ByteArray × Nat × Option FieldType × Nat) := [(⟨"jdk/internal/util/Preconditions", "checkIndex", "(IILjava/util/function/BiFunction;)I"⟩, prog_28_method_11_code, 3, some .int, 0),
  (⟨"jdk/internal/util/Preconditions", "checkFromToIndex", "(IIILjava/util/function/BiFunction;)I"⟩, prog_28_method_12_code, 4, some .int, 0)]
def mxMT19 : List (MethodName × ByteArray × Nat × Option FieldType × Nat) := [(⟨"java/lang/Character", "isValidCodePoint", "(I)Z"⟩, prog_15_method_11_code, 2, some .boolean, 1),
  (⟨"java/lang/Character", "highSurrogate", "(I)C"⟩, prog_15_method_28_code, 1, some .char, 3),
  (⟨"java/lang/Character", "lowSurrogate", "(I)C"⟩, prog_15_method_29_code, 1, some .char, 3)]
def mxMT20 : List (MethodName × ByteArray × Nat × Option FieldType × Nat) := [(⟨"RoofPigeonsLaw", "feed", "(LRoofPigeons;IIIII[J)I"⟩, method_3_code, 8, some .int, 0),
  (⟨"RoofPigeonsLaw", "trim", "(LRoofPigeons;I[J)I"⟩, method_4_code, 4, some .int, 0),
  (⟨"RoofPigeonsLaw", "heightOf", "(LRoofPigeons;I[J)I"⟩, method_5_code, 4, some .int, 0),
  (⟨"RoofPigeonsLaw", "isSeenFromLeft", "(LRoofPigeons;I[J)I"⟩, method_6_code, 4, some .int, 0),
  (⟨"RoofPigeonsLaw", "nextTallerLeft", "(LRoofPigeons;I[J)I"⟩, method_7_code, 4, some .int, 0),
  (⟨"RoofPigeonsLaw", "nextTallerRight", "(LRoofPigeons;I[J)I"⟩, method_8_code, 4, some .int, 0),
  (⟨"RoofPigeonsLaw", "waterOn", "(LRoofPigeons;I[J)I"⟩, method_9_code, 4, some .int, 0),
  (⟨"RoofPigeonsLaw", "pigeonsOn", "(LRoofPigeons;I[J)I"⟩, method_10_code, 4, some .int, 0),
  (⟨"RoofPigeonsLaw", "heardOn", "(LRoofPigeons;I[J)I"⟩, method_11_code, 4, some .int, 0),
  (⟨"RoofPigeonsLaw", "placeOf", "(LRoofPigeons;I[J)I"⟩, method_12_code, 4, some .int, 0),
  (⟨"RoofPigeonsLaw", "loudnessOf", "(LRoofPigeons;I[J)I"⟩, method_13_code, 4, some .int, 0),
  (⟨"RoofPigeonsLaw", "hears", "(LRoofPigeons;II[J)I"⟩, method_14_code, 5, some .int, 0),
  (⟨"RoofPigeonsLaw", "noiseAt", "(LRoofPigeons;I[J)I"⟩, method_15_code, 4, some .int, 0),
  (⟨"RoofPigeonsLaw", "hop", "(LRoofPigeons;IZ[J)I"⟩, method_16_code, 5, some .int, 0),
  (⟨"RoofPigeonsLaw", "glide", "(LRoofPigeons;IZ[J)I"⟩, method_17_code, 5, some .int, 0),
  (⟨"RoofPigeonsLaw", "build", "(LRoofPigeons;I[J)I"⟩, method_18_code, 4, some .int, 0),
  (⟨"RoofPigeonsLaw", "wear", "(LRoofPigeons;I[J)I"⟩, method_19_code, 4, some .int, 0),
  (⟨"RoofPigeonsLaw", "passDays", "(LRoofPigeons;I[J)I"⟩, method_20_code, 4, some .int, 0),
  (⟨"RoofPigeonsLaw", "trappedAfter", "(LRoofPigeons;I[J)I"⟩, method_21_code, 4, some .int, 0),
  (⟨"RoofPigeonsLaw", "daysUntilHeard", "(LRoofPigeons;II[J)I"⟩, method_22_code, 5, some .int, 0),
  (⟨"RoofPigeonsLaw", "trappedWith", "(LRoofPigeons;II[J)I"⟩, method_23_code, 5, some .int, 0),
  (⟨"RoofPigeonsLaw", "quietestTower", "(LRoofPigeons;I[J)I"⟩, method_24_code, 4, some .int, 0),
  (⟨"RoofPigeonsLaw", "law", "([I)Z"⟩, code, 9, some .boolean, 1)]
def mxMT : List (List (MethodName × ByteArray × Nat × Option FieldType × Nat)) := [mxMT0, mxMT1, mxMT2, mxMT3, mxMT4, mxMT5, mxMT6, mxMT7, mxMT8, mxMT9, mxMT10, mxMT11, mxMT12, mxMT13, mxMT14, mxMT15, mxMT16, mxMT17, mxMT18, mxMT19, mxMT20]
def mxmi (y : Nat) : MethodName × ByteArray × Nat × Option FieldType × Nat := (mxMT.getD (y / 128) []).getD (y % 128) (⟨"", "", ""⟩, ⟨#[]⟩, 0, none, 99)
def mxy (y : Nat) : MethodName := (mxmi y).1
def mxb (y : Nat) : ByteArray := (mxmi y).2.1
def mxml (y : Nat) : Nat := (mxmi y).2.2.1
def mxrt (y : Nat) : Option FieldType := (mxmi y).2.2.2.1
def mxrk (y : Nat) : Nat := (mxmi y).2.2.2.2
def mxT0 : u_T := fun k => match k with
  | 0 => ("RoofPigeons$Keeper", "stack", "[I", true)
  | _ => ("RoofPigeons$Keeper", "stacked", "I", false)
def mxty0 : Nat → FieldType := fun k => match k with
  | 0 => .array .int
  | _ => .int
def mxT1 : u_T := fun k => match k with
  | 0 => ("RoofPigeons$Order", "kind", "LRoofPigeons$Kind;", false)
  | 1 => ("RoofPigeons$Order", "pigeon", "I", false)
  | 2 => ("RoofPigeons$Order", "isRight", "Z", false)
  | 3 => ("RoofPigeons$Order", "firstOfSum", "I", false)
  | 4 => ("RoofPigeons$Order", "firstOfTest", "I", false)
  | _ => ("RoofPigeons$Order", "end", "I", false)
def mxty1 : Nat → FieldType := fun k => match k with
  | 0 => .object "RoofPigeons$Kind"
  | 1 => .int
  | 2 => .boolean
  | 3 => .int
  | 4 => .int
  | _ => .int
def mxT2 : u_T := fun k => match k with
  | 0 => ("RoofPigeons$Plan", "heights", "[I", true)
  | 1 => ("RoofPigeons$Plan", "places", "[I", true)
  | 2 => ("RoofPigeons$Plan", "loudnesses", "[I", true)
  | 3 => ("RoofPigeons$Plan", "orders", "[LRoofPigeons$Order;", true)
  | 4 => ("RoofPigeons$Plan", "stepKinds", "[LRoofPigeons$Kind;", true)
  | 5 => ("RoofPigeons$Plan", "stepFirsts", "[I", true)
  | 6 => ("RoofPigeons$Plan", "stepSeconds", "[I", true)
  | 7 => ("RoofPigeons$Plan", "towerCount", "I", false)
  | 8 => ("RoofPigeons$Plan", "pigeonCount", "I", false)
  | 9 => ("RoofPigeons$Plan", "orderCount", "I", false)
  | _ => ("RoofPigeons$Plan", "stepCount", "I", false)
def mxty2 : Nat → FieldType := fun k => match k with
  | 0 => .array .int
  | 1 => .array .int
  | 2 => .array .int
  | 3 => .array (.object "RoofPigeons$Order")
  | 4 => .array (.object "RoofPigeons$Kind")
  | 5 => .array .int
  | 6 => .array .int
  | 7 => .int
  | 8 => .int
  | 9 => .int
  | _ => .int
def mxT3 : u_T := fun k => match k with
  | 0 => ("RoofPigeons$Sky", "heights", "[I", true)
  | 1 => ("RoofPigeons$Sky", "tallerLeft", "[I", true)
  | 2 => ("RoofPigeons$Sky", "tallerRight", "[I", true)
  | 3 => ("RoofPigeons$Sky", "waters", "[I", true)
  | 4 => ("RoofPigeons$Sky", "seenLeft", "[Z", true)
  | 5 => ("RoofPigeons$Sky", "places", "[I", true)
  | 6 => ("RoofPigeons$Sky", "loudnesses", "[I", true)
  | 7 => ("RoofPigeons$Sky", "towerCount", "I", false)
  | 8 => ("RoofPigeons$Sky", "pigeonCount", "I", false)
  | 9 => ("RoofPigeons$Sky", "dayNumber", "I", false)
  | 10 => ("RoofPigeons$Sky", "carriedOut", "I", false)
  | 11 => ("RoofPigeons$Sky", "rain", "I", false)
  | 12 => ("RoofPigeons$Sky", "wetCount", "I", false)
  | 13 => ("RoofPigeons$Sky", "seenLeftCount", "I", false)
  | _ => ("RoofPigeons$Sky", "seenRightCount", "I", false)
def mxty3 : Nat → FieldType := fun k => match k with
  | 0 => .array .int
  | 1 => .array .int
  | 2 => .array .int
  | 3 => .array .int
  | 4 => .array .boolean
  | 5 => .array .int
  | 6 => .array .int
  | 7 => .int
  | 8 => .int
  | 9 => .int
  | 10 => .int
  | 11 => .int
  | 12 => .int
  | 13 => .int
  | _ => .int
def mxT4 : u_T := fun k => match k with
  | 0 => ("RoofPigeons$SkylineReader", "tokens", "LRoofPigeons$Tokens;", true)
  | 1 => ("RoofPigeons$SkylineReader", "names", "[J", true)
  | 2 => ("RoofPigeons$SkylineReader", "plan", "LRoofPigeons$Plan;", false)
  | 3 => ("RoofPigeons$SkylineReader", "at", "I", false)
  | 4 => ("RoofPigeons$SkylineReader", "here", "LRoofPigeons$Kind;", false)
  | 5 => ("RoofPigeons$SkylineReader", "error", "I", false)
  | 6 => ("RoofPigeons$SkylineReader", "errorToken", "I", false)
  | _ => ("RoofPigeons$SkylineReader", "errorPlace", "I", false)
def mxty4 : Nat → FieldType := fun k => match k with
  | 0 => .object "RoofPigeons$Tokens"
  | 1 => .array .long
  | 2 => .object "RoofPigeons$Plan"
  | 3 => .int
  | 4 => .object "RoofPigeons$Kind"
  | 5 => .int
  | 6 => .int
  | _ => .int
def mxT5 : u_T := fun k => match k with
  | 0 => ("RoofPigeons$Tape", "bytes", "[B", true)
  | _ => ("RoofPigeons$Tape", "length", "I", false)
def mxty5 : Nat → FieldType := fun k => match k with
  | 0 => .array .byte
  | _ => .int
def mxT6 : u_T := fun k => match k with
  | 0 => ("RoofPigeons$Tokens", "tape", "LRoofPigeons$Tape;", true)
  | 1 => ("RoofPigeons$Tokens", "kinds", "[LRoofPigeons$Kind;", true)
  | 2 => ("RoofPigeons$Tokens", "starts", "[I", true)
  | _ => ("RoofPigeons$Tokens", "values", "[J", true)
def mxty6 : Nat → FieldType := fun k => match k with
  | 0 => .object "RoofPigeons$Tape"
  | 1 => .array (.object "RoofPigeons$Kind")
  | 2 => .array .int
  | _ => .array .long
def mxT7 : u_T := fun k => match k with
  | 0 => ("RoofPigeons", "tape", "LRoofPigeons$Tape;", true)
  | 1 => ("RoofPigeons", "reader", "LRoofPigeons$SkylineReader;", true)
  | 2 => ("RoofPigeons", "keeper", "LRoofPigeons$Keeper;", true)
  | 3 => ("RoofPigeons", "sky", "LRoofPigeons$Sky;", true)
  | 4 => ("RoofPigeons", "trial", "LRoofPigeons$Sky;", true)
  | _ => ("RoofPigeons", "plan", "LRoofPigeons$Plan;", false)
def mxty7 : Nat → FieldType := fun k => match k with
  | 0 => .object "RoofPigeons$Tape"
  | 1 => .object "RoofPigeons$SkylineReader"
  | 2 => .object "RoofPigeons$Keeper"
  | 3 => .object "RoofPigeons$Sky"
  | 4 => .object "RoofPigeons$Sky"
  | _ => .object "RoofPigeons$Plan"
def mxT8 : u_T := fun k => match k with
  | 0 => ("RoofPigeonsModel$Plan", "towers", "I", false)
  | 1 => ("RoofPigeonsModel$Plan", "pigeons", "I", false)
  | 2 => ("RoofPigeonsModel$Plan", "height", "[I", true)
  | 3 => ("RoofPigeonsModel$Plan", "at", "[I", true)
  | 4 => ("RoofPigeonsModel$Plan", "loud", "[I", true)
  | 5 => ("RoofPigeonsModel$Plan", "orders", "I", false)
  | 6 => ("RoofPigeonsModel$Plan", "ordersRead", "I", false)
  | 7 => ("RoofPigeonsModel$Plan", "does", "[I", true)
  | 8 => ("RoofPigeonsModel$Plan", "to", "[I", true)
  | 9 => ("RoofPigeonsModel$Plan", "isRight", "[Z", true)
  | 10 => ("RoofPigeonsModel$Plan", "sum", "[I", true)
  | 11 => ("RoofPigeonsModel$Plan", "test", "[I", true)
  | 12 => ("RoofPigeonsModel$Plan", "testEnd", "[I", true)
  | 13 => ("RoofPigeonsModel$Plan", "code", "[I", true)
  | 14 => ("RoofPigeonsModel$Plan", "size", "I", false)
  | 15 => ("RoofPigeonsModel$Plan", "open", "[I", true)
  | _ => ("RoofPigeonsModel$Plan", "opens", "I", false)
def mxty8 : Nat → FieldType := fun k => match k with
  | 0 => .int
  | 1 => .int
  | 2 => .array .int
  | 3 => .array .int
  | 4 => .array .int
  | 5 => .int
  | 6 => .int
  | 7 => .array .int
  | 8 => .array .int
  | 9 => .array .boolean
  | 10 => .array .int
  | 11 => .array .int
  | 12 => .array .int
  | 13 => .array .int
  | 14 => .int
  | 15 => .array .int
  | _ => .int
def mxT9 : u_T := fun k => match k with
  | 0 => ("RoofPigeonsModel$State", "day", "I", false)
  | 1 => ("RoofPigeonsModel$State", "done", "I", false)
  | 2 => ("RoofPigeonsModel$State", "height", "[I", true)
  | 3 => ("RoofPigeonsModel$State", "place", "[I", true)
  | _ => ("RoofPigeonsModel$State", "this$0", "LRoofPigeonsModel;", true)
def mxty9 : Nat → FieldType := fun k => match k with
  | 0 => .int
  | 1 => .int
  | 2 => .array .int
  | 3 => .array .int
  | _ => .object "RoofPigeonsModel"
def mxT10 : u_T := fun k => match k with
  | 0 => ("RoofPigeonsModel", "thrown", "I", false)
  | 1 => ("RoofPigeonsModel", "tape", "[I", true)
  | 2 => ("RoofPigeonsModel", "size", "I", false)
  | 3 => ("RoofPigeonsModel", "errorAt", "I", false)
  | 4 => ("RoofPigeonsModel", "kind", "[I", true)
  | 5 => ("RoofPigeonsModel", "from", "[I", true)
  | 6 => ("RoofPigeonsModel", "many", "[I", true)
  | 7 => ("RoofPigeonsModel", "role", "[I", true)
  | 8 => ("RoofPigeonsModel", "meant", "[I", true)
  | 9 => ("RoofPigeonsModel", "token", "I", false)
  | 10 => ("RoofPigeonsModel", "depth", "I", false)
  | 11 => ("RoofPigeonsModel", "plan", "LRoofPigeonsModel$Plan;", false)
  | 12 => ("RoofPigeonsModel", "reading", "LRoofPigeonsModel$Plan;", false)
  | 13 => ("RoofPigeonsModel", "stack", "[I", true)
  | 14 => ("RoofPigeonsModel", "s", "LRoofPigeonsModel$State;", true)
  | _ => ("RoofPigeonsModel", "other", "LRoofPigeonsModel$State;", true)
def mxty10 : Nat → FieldType := fun k => match k with
  | 0 => .int
  | 1 => .array .int
  | 2 => .int
  | 3 => .int
  | 4 => .array .int
  | 5 => .array .int
  | 6 => .array .int
  | 7 => .array .int
  | 8 => .array .int
  | 9 => .int
  | 10 => .int
  | 11 => .object "RoofPigeonsModel$Plan"
  | 12 => .object "RoofPigeonsModel$Plan"
  | 13 => .array .int
  | 14 => .object "RoofPigeonsModel$State"
  | _ => .object "RoofPigeonsModel$State"
def mxcl : List vw_C := [("RoofPigeons$Keeper", mxT0, 2), ("RoofPigeons$Order", mxT1, 6), ("RoofPigeons$Plan", mxT2, 11), ("RoofPigeons$Sky", mxT3, 15), ("RoofPigeons$SkylineReader", mxT4, 8), ("RoofPigeons$Tape", mxT5, 2), ("RoofPigeons$Tokens", mxT6, 4), ("RoofPigeons", mxT7, 6), ("RoofPigeonsModel$Plan", mxT8, 17), ("RoofPigeonsModel$State", mxT9, 5), ("RoofPigeonsModel", mxT10, 16)]
/-- a final field is put by its own class' constructor alone -/
def mxfok (y ci k : Nat) : Bool := match mxcl[ci]? with
  | some q => !(q.2.1 k).2.2.2 || (decide ((mxy y).name = "<init>") && decide ((q.2.1 k).1 = mxcn (y / 128)))
  | none => false
def mxFT : List (List (Nat × Nat × Nat × Nat)) := [[],
  [(57, 1, 0, 2), (67, 1, 1, 0), (70, 1, 2, 1), (81, 1, 3, 0), (40, 1, 4, 0), (45, 1, 5, 0), (21, 2, 3, 2), (98, 2, 4, 2), (120, 2, 5, 2), (123, 2, 6, 2), (15, 2, 9, 0), (9, 0, 0, 2), (95, 0, 1, 0), (156, 3, 0, 2), (139, 3, 5, 2), (136, 3, 7, 0), (37, 3, 9, 0), (29, 3, 10, 0), (130, 3, 11, 0), (133, 3, 13, 0), (102, 20, 1, 0)],
  [],
  [(13, 1, 0, 2)],
  [(57, 1, 0, 2), (60, 1, 1, 0), (63, 1, 2, 1), (67, 1, 3, 0), (70, 1, 4, 0), (73, 1, 5, 0), (9, 2, 0, 2), (15, 2, 1, 2), (18, 2, 2, 2), (23, 2, 3, 2), (30, 2, 4, 2), (38, 2, 5, 2), (41, 2, 6, 2), (44, 2, 7, 0), (48, 2, 8, 0), (51, 2, 9, 0), (54, 2, 10, 0)],
  [(34, 2, 0, 2), (43, 2, 1, 2), (44, 2, 2, 2), (45, 2, 7, 0), (50, 2, 8, 0), (9, 3, 0, 2), (15, 3, 1, 2), (18, 3, 2, 2), (21, 3, 3, 2), (24, 3, 4, 2), (28, 3, 5, 2), (31, 3, 6, 2), (49, 3, 7, 0), (53, 3, 8, 0), (54, 3, 9, 0), (57, 3, 10, 0), (78, 3, 11, 0), (81, 3, 12, 0), (72, 3, 13, 0), (75, 3, 14, 0)],
  [(49, 6, 1, 2), (66, 6, 2, 2), (83, 6, 3, 2), (86, 2, 7, 0), (131, 2, 8, 0), (151, 2, 9, 0), (154, 2, 10, 0), (9, 4, 0, 2), (19, 4, 1, 2), (15, 4, 2, 2), (46, 4, 3, 0), (29, 4, 4, 2), (53, 4, 5, 0), (63, 4, 6, 0), (32, 4, 7, 0)],
  [(9, 5, 0, 2), (15, 5, 1, 0)],
  [(51, 5, 1, 0), (9, 6, 0, 2), (17, 6, 1, 2), (25, 6, 2, 2), (29, 6, 3, 2), (82, 20, 0, 2)],
  [(76, 5, 1, 0), (93, 4, 7, 0), (129, 3, 0, 2), (137, 3, 1, 2), (140, 3, 2, 2), (143, 3, 3, 2), (133, 3, 4, 2), (156, 3, 5, 2), (159, 3, 6, 2), (96, 3, 7, 0), (99, 3, 8, 0), (102, 3, 9, 0), (105, 3, 10, 0), (108, 3, 11, 0), (111, 3, 12, 0), (120, 3, 13, 0), (123, 3, 14, 0), (10, 7, 0, 2), (29, 7, 1, 2), (36, 7, 2, 2), (43, 7, 3, 2), (47, 7, 4, 2), (50, 7, 5, 2)],
  [(9, 8, 2, 2), (15, 8, 3, 2), (18, 8, 4, 2), (21, 8, 7, 2), (24, 8, 8, 2), (27, 8, 9, 2), (31, 8, 10, 2), (34, 8, 11, 2), (37, 8, 12, 2), (40, 8, 13, 2), (43, 8, 15, 2)],
  [(62, 8, 0, 0), (83, 8, 1, 0), (39, 8, 2, 2), (42, 8, 3, 2), (93, 8, 4, 2), (158, 8, 5, 0), (128, 8, 7, 2), (131, 8, 8, 2), (134, 8, 9, 2), (142, 8, 10, 2), (145, 8, 11, 2), (161, 8, 12, 2), (109, 8, 13, 2), (22, 9, 0, 0), (26, 9, 1, 0), (15, 9, 2, 2), (19, 9, 3, 2), (3, 9, 4, 2), (35, 10, 11, 2), (112, 10, 13, 2)],
  [(57, 8, 0, 0), (67, 8, 1, 0), (222, 8, 2, 2), (232, 8, 3, 2), (235, 8, 4, 2), (238, 8, 5, 0), (150, 8, 6, 0), (241, 8, 7, 2), (247, 8, 8, 2), (156, 8, 9, 2), (153, 8, 10, 2), (163, 8, 11, 2), (169, 8, 12, 2), (131, 8, 13, 2), (134, 8, 14, 0), (185, 8, 15, 2), (188, 8, 16, 0), (283, 9, 0, 0), (286, 9, 1, 0), (312, 9, 2, 2), (332, 9, 3, 2), (60, 10, 0, 0), (9, 10, 1, 2), (83, 10, 2, 0), (13, 10, 3, 0), (17, 10, 4, 2), (20, 10, 5, 2), (23, 10, 6, 2), (26, 10, 7, 2), (29, 10, 8, 2), (122, 10, 9, 0), (182, 10, 10, 0), (35, 10, 11, 2), (39, 10, 12, 2), (42, 10, 13, 2), (50, 10, 14, 2), (54, 10, 15, 2)],
  [(7, 20, 2, 0)],
  [],
  [(9, 21, 0, 2), (15, 21, 1, 0)],
  [],
  [],
  [],
  [],
  []]
def mxFl (o i : Nat) : Option (Nat × Nat × Nat) := (mxFT.getD o []).lookup i
def mxST : List (List (Nat × Value)) := [[],
  [(52, .ref 300), (88, .ref 6)],
  [],
  [(7, .ref 46)],
  [(34, .ref 46)],
  [],
  [(23, .ref 46), (73, .ref 0), (80, .ref 44), (96, .ref 31), (99, .ref 45), (102, .ref 1), (111, .ref 43), (117, .ref 2), (124, .ref 3), (139, .ref 4), (142, .ref 5), (145, .ref 6), (148, .ref 7), (161, .ref 9), (181, .ref 8), (200, .ref 300), (236, .ref 18), (239, .ref 42), (242, .ref 28), (248, .ref 27), (251, .ref 15), (254, .ref 32), (230, .ref 35), (233, .ref 36), (221, .ref 33), (224, .ref 34), (171, .ref 10), (212, .ref 30), (197, .ref 23), (187, .ref 24)],
  [],
  [(21, .ref 46), (44, .ref 45), (76, .ref 44), (79, .ref 301), (90, .ref 43), (102, .ref 300)],
  [],
  [],
  [],
  [(107, .ref 302)],
  [],
  [],
  [(38, .int 1), (1053, .ref 998)],
  [],
  [],
  [],
  [],
  []]
def mxSl (o i : Nat) : Option (Value) := (mxST.getD o []).lookup i
def mxLT : List (List (Nat × Value)) := [[],
  [],
  [],
  [],
  [],
  [],
  [],
  [],
  [(117, .long 37)],
  [(210, .long 1061), (212, .long 31)],
  [],
  [],
  [(100, .ref 130), (380, .long 1061), (382, .long 31)],
  [],
  [],
  [],
  [],
  [],
  [],
  [],
  []]
def mxLl (o i : Nat) : Option (Value) := (mxLT.getD o []).lookup i
def mxNT : List (List (Nat × Nat × List Value)) := [[],
  [],
  [],
  [],
  [(21, 1, [.null, .int 0, .int 0, .int 0, .int 0, .int 0])],
  [],
  [],
  [],
  [],
  [(7, 5, [.null, .int 0]), (16, 4, [.null, .null, .null, .int 0, .null, .int 0, .int 0, .int 0]), (18, 6, [.null, .null, .null, .null]), (23, 2, [.null, .null, .null, .null, .null, .null, .null, .int 0, .int 0, .int 0, .int 0]), (33, 0, [.null, .int 0]), (40, 3, [.null, .null, .null, .null, .null, .null, .null, .int 0, .int 0, .int 0, .int 0, .int 0, .int 0, .int 0, .int 0])],
  [],
  [],
  [(32, 8, [.int 0, .int 0, .null, .null, .null, .int 0, .int 0, .null, .null, .null, .null, .null, .null, .null, .int 0, .null, .int 0]), (45, 9, [.int 0, .int 0, .null, .null, .null])],
  [],
  [],
  [],
  [],
  [],
  [],
  [],
  [(8, 7, [.null, .null, .null, .null, .null, .null]), (88, 10, [.int 0, .null, .int 0, .int 0, .null, .null, .null, .null, .null, .int 0, .int 0, .null, .null, .null, .null, .null])]]
def mxNl (o i : Nat) : Option (Nat × List Value) := (mxNT.getD o []).lookup i
def mxA2T : List (List (Nat × Nat)) := [[], [], [], [], [(21, 5), (28, 4)], [], [], [], [(15, 4)], [], [], [], [], [], [], [], [], [], [], [], []]
def mxAl2 (o i : Nat) : Option Nat := (mxA2T.getD o []).lookup i
def mxVT : List (List (Nat × Nat × Nat × Nat × Nat)) := [[],
  [(3, 3, 0, 0, 0), (25, 0, 130, 3, 0), (48, 0, 131, 4, 0), (105, 0, 133, 0, 0), (108, 1, 136, 3, 0), (61, 0, 1664, 0, 20), (163, 1, 1794, 2, 0), (168, 1, 1793, 2, 0), (149, 1, 137, 1, 0), (112, 0, 132, 1, 0), (116, 1, 135, 3, 0), (84, 0, 653, 1, 3), (159, 0, 652, 1, 3), (126, 1, 134, 4, 0), (142, 0, 662, 2, 3), (146, 0, 661, 2, 3), (153, 0, 657, 1, 3), (74, 0, 648, 2, 3), (78, 0, 649, 2, 3), (91, 0, 647, 2, 3), (34, 0, 650, 0, 3)],
  [],
  [(1, 3, 0, 0, 0)],
  [(3, 3, 0, 0, 0), (27, 2, 384, 0, 0)],
  [(3, 3, 0, 0, 0), (37, 4, 0, 0, 0), (60, 0, 643, 0, 3), (63, 0, 644, 0, 3), (66, 0, 645, 0, 3), (69, 0, 646, 0, 3), (84, 1, 1794, 2, 0), (90, 1, 1793, 2, 0), (97, 0, 652, 1, 3), (108, 0, 662, 2, 3), (104, 0, 660, 2, 3), (101, 1, 1792, 2, 0), (93, 0, 651, 1, 3)],
  [(3, 3, 0, 0, 0), (36, 0, 1025, 0, 6), (41, 0, 513, 0, 2), (56, 0, 775, 0, 4), (76, 0, 772, 1, 4), (70, 0, 771, 0, 4), (89, 0, 774, 1, 4), (93, 0, 514, 1, 2), (60, 0, 776, 0, 4), (105, 0, 777, 0, 4), (114, 0, 778, 0, 4), (120, 0, 779, 2, 4), (127, 0, 515, 2, 2), (108, 0, 781, 0, 4), (157, 0, 780, 0, 4), (134, 1, 1793, 2, 0), (164, 0, 782, 0, 4), (167, 0, 787, 1, 4), (218, 0, 788, 1, 4), (227, 0, 789, 1, 4), (205, 0, 1664, 0, 20), (190, 0, 517, 3, 2), (208, 0, 773, 2, 4), (245, 0, 790, 1, 4), (174, 0, 783, 1, 4), (184, 0, 784, 1, 4), (194, 0, 785, 1, 4), (215, 0, 786, 1, 4), (177, 0, 516, 5, 2)],
  [(3, 3, 0, 0, 0), (19, 0, 899, 1, 5)],
  [(3, 3, 0, 0, 0), (33, 0, 1026, 1, 6), (57, 0, 902, 1, 5), (37, 0, 1027, 1, 6), (61, 0, 900, 1, 5), (64, 0, 901, 1, 5), (67, 0, 899, 1, 5), (70, 1, 1794, 2, 0), (40, 0, 1028, 2, 6), (86, 0, 1029, 3, 6), (93, 0, 1920, 0, 21), (98, 0, 1921, 1, 21), (47, 0, 1030, 3, 6), (107, 0, 1664, 0, 20), (110, 0, 1031, 2, 6), (113, 0, 1032, 2, 6)],
  [(1, 3, 0, 0, 0), (9, 2, 896, 0, 0), (20, 2, 1024, 1, 0), (25, 2, 512, 0, 0), (26, 2, 768, 2, 0), (35, 2, 128, 0, 0), (42, 2, 640, 0, 0), (54, 0, 514, 1, 2), (58, 0, 641, 1, 3), (85, 0, 769, 0, 4), (89, 0, 770, 1, 4), (114, 0, 654, 0, 3), (117, 0, 655, 0, 3), (170, 0, 663, 0, 3), (198, 0, 642, 1, 3), (184, 0, 647, 2, 3), (207, 0, 656, 0, 3), (214, 0, 1157, 0, 7), (217, 0, 1158, 0, 7), (220, 0, 1159, 0, 7), (223, 0, 1160, 0, 7), (226, 0, 1161, 0, 7), (229, 0, 1162, 0, 7), (232, 0, 1163, 0, 7), (235, 0, 1164, 0, 7), (238, 0, 1165, 0, 7), (241, 0, 1166, 0, 7), (244, 0, 1178, 0, 7), (247, 0, 1187, 0, 7), (250, 0, 1191, 1, 7), (146, 0, 658, 1, 3), (150, 0, 659, 1, 3), (254, 0, 1192, 1, 7), (166, 0, 662, 2, 3), (204, 0, 664, 1, 3), (62, 0, 897, 1, 5), (73, 0, 898, 1, 5), (126, 0, 1193, 1, 7), (153, 0, 1194, 1, 7), (162, 0, 661, 2, 3), (173, 0, 648, 2, 3), (179, 0, 649, 2, 3), (191, 0, 1195, 1, 7), (194, 0, 129, 2, 0)],
  [(3, 3, 0, 0, 0)],
  [(9, 3, 0, 0, 0), (29, 4, 0, 0, 0), (72, 0, 1416, 1, 9), (59, 0, 1412, 2, 9), (45, 0, 1411, 2, 9), (49, 0, 1541, 1, 10), (53, 1, 1793, 2, 0), (69, 1, 1794, 2, 0), (65, 0, 1413, 2, 9), (89, 0, 1424, 2, 9), (86, 0, 1415, 2, 9), (96, 0, 1427, 2, 9), (99, 0, 1428, 1, 9), (148, 0, 1436, 2, 9), (115, 0, 1435, 2, 9), (76, 0, 1417, 0, 9), (105, 0, 1414, 1, 9), (118, 0, 1426, 2, 9), (121, 0, 1434, 1, 9), (102, 1, 1792, 2, 0), (124, 1, 1544, 3, 0), (164, 0, 1437, 1, 9), (138, 0, 1431, 3, 9), (151, 0, 1432, 2, 9), (154, 0, 1433, 2, 9), (167, 0, 1438, 1, 9), (171, 0, 1439, 1, 9), (80, 0, 1418, 2, 9)],
  [(1, 3, 0, 0, 0), (34, 2, 1280, 0, 0), (47, 2, 1408, 1, 0), (271, 0, 1538, 1, 10), (63, 1, 1540, 3, 0), (274, 0, 1581, 0, 10), (262, 0, 1550, 0, 10), (86, 0, 1547, 1, 10), (119, 0, 1548, 2, 10), (90, 1, 1545, 1, 0), (94, 1, 1546, 1, 0), (97, 0, 1549, 2, 10), (111, 0, 1920, 0, 21), (115, 0, 1921, 1, 21), (102, 0, 1922, 1, 21), (265, 0, 1557, 0, 10), (128, 0, 1553, 1, 10), (125, 0, 1551, 1, 10), (135, 0, 1555, 2, 10), (139, 0, 1554, 1, 10), (143, 0, 1558, 0, 10), (147, 0, 1559, 1, 10), (74, 1, 1794, 2, 0), (160, 0, 1566, 0, 10), (203, 0, 1567, 0, 10), (206, 0, 1569, 0, 10), (175, 0, 1556, 1, 10), (209, 0, 1570, 1, 10), (191, 0, 1563, 1, 10), (197, 0, 1552, 1, 10), (194, 0, 1562, 0, 10), (212, 0, 1568, 2, 10), (166, 0, 1560, 0, 10), (172, 0, 1561, 0, 10), (179, 0, 1565, 0, 10), (200, 0, 1564, 1, 10), (268, 0, 1580, 1, 10), (250, 0, 1577, 1, 10), (229, 0, 1574, 3, 10), (219, 0, 1572, 2, 10), (216, 0, 1571, 2, 10), (253, 0, 1578, 1, 10), (256, 0, 1579, 1, 10), (244, 0, 1573, 2, 10), (259, 0, 1576, 1, 10), (225, 0, 1575, 3, 10), (277, 0, 1410, 0, 9), (280, 0, 1539, 1, 10), (289, 0, 1417, 0, 9), (292, 0, 1419, 0, 9), (295, 0, 1420, 0, 9), (298, 0, 1421, 0, 9), (301, 0, 1414, 1, 9), (305, 0, 1541, 1, 10), (308, 0, 1596, 1, 10), (313, 0, 1413, 2, 9), (316, 0, 1415, 2, 9), (320, 0, 1416, 1, 9), (323, 0, 1423, 1, 9), (326, 0, 1425, 1, 9), (329, 0, 1542, 1, 10), (335, 0, 1426, 2, 9), (338, 0, 1428, 1, 9), (341, 0, 1429, 0, 9), (348, 0, 1609, 3, 10), (344, 0, 1431, 3, 9), (358, 0, 1612, 2, 10), (351, 0, 1432, 2, 9), (354, 0, 1433, 2, 9), (360, 0, 1439, 1, 9), (80, 1, 1793, 2, 0), (364, 0, 1543, 0, 10), (70, 0, 1409, 1, 9), (368, 0, 1440, 2, 9), (371, 0, 1418, 2, 9), (374, 0, 1422, 0, 9), (377, 0, 1430, 1, 9)],
  [],
  [],
  [(335, 0, 1924, 0, 21), (492, 0, 1925, 0, 21), (495, 1, 2048, 2, 0), (1059, 1, 2304, 3, 0), (633, 0, 1923, 2, 21), (505, 0, 1920, 0, 21), (637, 1, 2050, 4, 0), (1062, 1, 2305, 4, 0)],
  [(9, 1, 1926, 2, 0), (88, 1, 2049, 1, 0), (92, 1, 1793, 2, 0), (38, 1, 1794, 2, 0), (95, 1, 2051, 4, 0)],
  [],
  [],
  [],
  [(87, 2, 1152, 0, 0), (105, 0, 1155, 0, 7), (109, 0, 1156, 0, 7), (113, 0, 1157, 0, 7), (117, 0, 1158, 0, 7), (121, 0, 1159, 0, 7), (125, 0, 1160, 0, 7), (129, 0, 1161, 0, 7), (133, 0, 1162, 0, 7), (137, 0, 1163, 0, 7), (141, 0, 1164, 0, 7), (145, 0, 1165, 0, 7), (149, 0, 1166, 0, 7), (187, 0, 1178, 0, 7), (216, 0, 1187, 0, 7), (223, 0, 1189, 0, 7), (228, 0, 1190, 0, 7), (91, 1, 2560, 7, 0), (7, 0, 1153, 5, 7), (101, 1, 2561, 3, 0), (15, 0, 1154, 1, 7), (153, 1, 2562, 3, 0), (21, 0, 1167, 1, 7), (156, 1, 2563, 3, 0), (26, 0, 1168, 1, 7), (159, 1, 2564, 3, 0), (30, 0, 1169, 1, 7), (162, 1, 2565, 3, 0), (33, 0, 1170, 1, 7), (165, 1, 2566, 3, 0), (36, 0, 1171, 1, 7), (168, 1, 2567, 3, 0), (39, 0, 1172, 1, 7), (171, 1, 2568, 3, 0), (42, 0, 1173, 1, 7), (174, 1, 2569, 3, 0), (45, 0, 1174, 1, 7), (177, 1, 2570, 3, 0), (48, 0, 1175, 1, 7), (180, 1, 2571, 4, 0), (51, 0, 1176, 2, 7), (184, 1, 2572, 3, 0), (55, 0, 1177, 1, 7), (191, 1, 2573, 4, 0), (58, 0, 1179, 2, 7), (195, 1, 2574, 4, 0), (62, 0, 1180, 2, 7), (198, 1, 2575, 3, 0), (65, 0, 1181, 1, 7), (201, 1, 2576, 3, 0), (68, 0, 1182, 1, 7), (204, 1, 2577, 3, 0), (71, 0, 1183, 1, 7), (207, 1, 2578, 3, 0), (74, 0, 1184, 1, 7), (210, 1, 2579, 4, 0), (77, 0, 1185, 2, 7), (213, 1, 2580, 4, 0), (81, 0, 1186, 2, 7), (220, 1, 2581, 3, 0), (84, 0, 1188, 1, 7), (90, 2, 1536, 0, 0), (97, 0, 1537, 0, 10), (96, 0, 1582, 5, 10), (104, 0, 1583, 1, 10), (108, 0, 1584, 0, 10), (112, 0, 1585, 0, 10), (116, 0, 1586, 0, 10), (120, 0, 1587, 0, 10), (124, 0, 1588, 0, 10), (128, 0, 1589, 0, 10), (132, 0, 1590, 0, 10), (136, 0, 1591, 0, 10), (140, 0, 1592, 0, 10), (144, 0, 1593, 0, 10), (148, 0, 1594, 0, 10), (152, 0, 1595, 0, 10), (155, 0, 1597, 1, 10), (158, 0, 1598, 1, 10), (161, 0, 1599, 1, 10), (164, 0, 1600, 1, 10), (167, 0, 1601, 1, 10), (170, 0, 1602, 1, 10), (173, 0, 1603, 1, 10), (176, 0, 1604, 1, 10), (179, 0, 1605, 1, 10), (183, 0, 1606, 2, 10), (186, 0, 1607, 1, 10), (190, 0, 1608, 0, 10), (194, 0, 1610, 2, 10), (197, 0, 1611, 2, 10), (200, 0, 1613, 1, 10), (203, 0, 1614, 1, 10), (206, 0, 1615, 1, 10), (209, 0, 1616, 1, 10), (212, 0, 1617, 2, 10), (215, 0, 1618, 2, 10), (219, 0, 1619, 0, 10), (222, 0, 1620, 1, 10), (227, 0, 1621, 0, 10), (232, 0, 1622, 0, 10)]]
def mxVl (o i : Nat) : Option (Nat × Nat × Nat × Nat) := (mxVT.getD o []).lookup i
def mxTT : List ((Nat × Nat) × Nat) := [((1153, 12), 0), ((1154, 15), 1), ((1179, 17), 0), ((1180, 17), 0), ((1181, 17), 0), ((1182, 17), 0), ((1186, 15), 1), ((1193, 15), 2), ((1194, 15), 2), ((1195, 11), 1)]
def mxTl (y pc : Nat) : Option Nat := mxTT.lookup (y, pc)
def mxHT : List ((Nat × Nat × Nat) × Nat × Nat) := [((2560, 11, 0), 21, 7), ((2561, 4, 1), 13, 3), ((2562, 4, 2), 13, 3), ((2563, 4, 2), 20, 3), ((2564, 4, 2), 13, 3), ((2565, 4, 2), 13, 3), ((2566, 4, 2), 13, 3), ((2567, 4, 2), 13, 3), ((2568, 4, 2), 13, 3), ((2569, 4, 2), 13, 3), ((2570, 4, 2), 13, 3), ((2571, 5, 2), 22, 4), ((2572, 4, 2), 13, 3), ((2573, 5, 0), 19, 4), ((2573, 5, 2), 15, 4), ((2574, 5, 0), 19, 4), ((2574, 5, 2), 15, 4), ((2575, 4, 0), 16, 3), ((2575, 4, 2), 13, 3), ((2576, 4, 0), 16, 3), ((2576, 4, 2), 13, 3), ((2577, 4, 1), 13, 3), ((2578, 4, 1), 13, 3), ((2579, 5, 2), 15, 4), ((2580, 5, 1), 19, 4), ((2580, 5, 2), 15, 4), ((2581, 4, 2), 13, 3)]
def mxHl (y pc q : Nat) : Option (Nat × Nat) := mxHT.lookup (y, pc, q)
/-! ===== one step: the instruction at y, pc, out of the bytes themselves ===== -/
def mxtgt (pc : Nat) (off : Int) : Nat := ((pc : Int) + off).toNat
def mxTabs (pc : Nat) (lo : Int) : List Int → List (Int × Nat)
  | [] => []
  | o :: l => (lo, mxtgt pc o) :: mxTabs pc (lo + 1) l
/-- the length that the rows of the kit know, and targets that lie within the method -/
def mxLn : Instr → Nat → Nat → Bool
  | .goto o, pc, n => n == 3 && decide (0 ≤ (pc : Int) + o)
  | .if_acmp _ o, pc, n => n == 3 && decide (0 ≤ (pc : Int) + o)
  | .if_icmp _ o, pc, n => n == 3 && decide (0 ≤ (pc : Int) + o)
  | .ifCond _ o, pc, n => n == 3 && decide (0 ≤ (pc : Int) + o)
  | .tableswitch d _ _ os, pc, _ => decide (0 ≤ (pc : Int) + d) && os.toList.all (fun o => decide (0 ≤ (pc : Int) + o))
  | .lookupswitch d ps, pc, _ => decide (0 ≤ (pc : Int) + d) && ps.toList.all (fun q => decide (0 ≤ (pc : Int) + q.2)) && (ps.toList.zip (ps.toList.drop 1)).all (fun (a, next) => a.1 < next.1)
  | .iload _, _, n => n == 2
  | .lload _, _, n => n == 2
  | .dload _, _, n => n == 2
  | .aload _, _, n => n == 2
  | .istore _, _, n => n == 2
  | .lstore _, _, n => n == 2
  | .dstore _, _, n => n == 2
  | .astore _, _, n => n == 2
  | .bipush _, _, n => n == 2
  | .newarray _, _, n => n == 2
  | .ldc _, _, n => n == 2
  | .sipush _, _, n => n == 3
  | .iinc _ _, _, n => n == 3
  | .ldc2_w _, _, n => n == 3
  | .ldc_w _, _, n => n == 3
  | .getfield _, _, n => n == 3
  | .putfield _, _, n => n == 3
  | .getstatic _, _, n => n == 3
  | .new _, _, n => n == 3
  | .anewarray _, _, n => n == 3
  | .invokevirtual _, _, n => n == 3
  | .invokestatic _, _, n => n == 3
  | .invokespecial _, _, n => n == 3
  | _, _, n => n == 1
def mxinv (q : Nat × Nat × Nat × Nat) (pc : Nat) (loc : mxL) (st : List Value) (σ : mxS) : Option mxAct := match q.1 with
  | 0 => mxcV q.2.1 q.2.2.1 q.2.2.2 st σ
  | 1 => mxcS q.2.1 q.2.2.1 st
  | 2 => mxcI q.2.1 q.2.2.1 st
  | 3 => mxoi (pc + 3) loc st σ
  | 4 => mxcp (pc + 3) loc st σ
  | _ => none
def mxatype : ArrayType → Option Nat
  | .int => some 0
  | .long => some 1
  | .byte => some 2
  | .boolean => some 3
  | _ => none
/-- thrown with nothing else on the stack -/
def mxthr (q : Nat) (st : List Value) : Option mxAct := match st with
  | [] => some (.inr (.inr (.inr q)))
  | _ :: _ => none
def mxsV (s : Nat) : Bool := s == 0
def mxsS (s : Nat) : Bool := s == 1 || s == 4
def mxsI (s : Nat) : Bool := s == 2 || s == 3
def mxSem (y pc : Nat) (loc : mxL) (st : List Value) (σ : mxS) : Instr → Option mxAct
  | .iload_n k => mxldI (pc + 1) loc st σ (mxat loc k.val)
  | .lload_n k => mxldJ (pc + 1) loc st σ (mxat loc k.val)
  | .dload_n k => mxldD (pc + 1) loc st σ (mxat loc k.val)
  | .aload_n k => mxldA (pc + 1) loc st σ (mxat loc k.val)
  | .iload k => mxldI (pc + 2) loc st σ (mxat loc k)
  | .lload k => mxldJ (pc + 2) loc st σ (mxat loc k)
  | .dload k => mxldD (pc + 2) loc st σ (mxat loc k)
  | .aload k => mxldA (pc + 2) loc st σ (mxat loc k)
  | .istore_n k => mxstI k.val (pc + 1) loc st σ
  | .lstore_n k => mxstJ k.val (pc + 1) loc st σ
  | .dstore_n k => mxstD k.val (pc + 1) loc st σ
  | .astore_n k => mxstA k.val (pc + 1) loc st σ
  | .istore k => mxstI k (pc + 2) loc st σ
  | .lstore k => mxstJ k (pc + 2) loc st σ
  | .dstore k => mxstD k (pc + 2) loc st σ
  | .astore k => mxstA k (pc + 2) loc st σ
  | .iconst n => mxgo (pc + 1) loc (.int (Int32.ofInt n) :: st) σ
  | .lconst n => mxgo (pc + 1) loc (.long (Int64.ofNat n.val) :: st) σ
  | .dconst n => if n = 0 then mxgo (pc + 1) loc (.double FP.dconst0 :: st) σ else none
  | .bipush n => mxgo (pc + 2) loc (.int (Int8.ofInt n).toInt32 :: st) σ
  | .sipush n => mxgo (pc + 3) loc (.int (Int16.ofInt n).toInt32 :: st) σ
  | .aconst_null => mxgo (pc + 1) loc (.null :: st) σ
  | .iinc k n => mxinc k n (pc + 3) loc st σ (mxat loc k)
  | .iadd => mxI2 (fun x y => x + y) (pc + 1) loc st σ
  | .isub => mxI2 (fun x y => x - y) (pc + 1) loc st σ
  | .imul => mxI2 (fun x y => x * y) (pc + 1) loc st σ
  | .iand => mxI2 (fun x y => x &&& y) (pc + 1) loc st σ
  | .ior => mxI2 (fun x y => x ||| y) (pc + 1) loc st σ
  | .ixor => mxI2 (fun x y => x ^^^ y) (pc + 1) loc st σ
  | .ishl => mxI2 (fun x y => x <<< (y &&& 31)) (pc + 1) loc st σ
  | .ishr => mxI2 (fun x y => x >>> (y &&& 31)) (pc + 1) loc st σ
  | .idiv => mxI2z (fun x y => x / y) (pc + 1) loc st σ
  | .irem => mxI2z (fun x y => x - x / y * y) (pc + 1) loc st σ
  | .ineg => mxI1 (fun x => -x) (pc + 1) loc st σ
  | .i2b => mxI1 (fun x => x.toInt8.toInt32) (pc + 1) loc st σ
  | .i2c => mxI1 (fun x => (x.toUInt32 % 65536).toInt32) (pc + 1) loc st σ
  | .i2l => mxI2J (pc + 1) loc st σ
  | .l2i => mxJ2I (pc + 1) loc st σ
  | .i2d => mxI2D (pc + 1) loc st σ
  | .ladd => mxJ2 (fun x y => x + y) (pc + 1) loc st σ
  | .lmul => mxJ2 (fun x y => x * y) (pc + 1) loc st σ
  | .lcmp => mxlcmp (pc + 1) loc st σ
  | .dcmp op => mxdcmp op (pc + 1) loc st σ
  | .ddiv => mxddiv (pc + 1) loc st σ
  | .ifCond .eq o => mxif_eq (mxtgt pc o) (pc + 3) loc st σ
  | .ifCond .ne o => mxif_ne (mxtgt pc o) (pc + 3) loc st σ
  | .ifCond .lt o => mxif_lt (mxtgt pc o) (pc + 3) loc st σ
  | .ifCond .ge o => mxif_ge (mxtgt pc o) (pc + 3) loc st σ
  | .ifCond .gt o => mxif_gt (mxtgt pc o) (pc + 3) loc st σ
  | .ifCond .le o => mxif_le (mxtgt pc o) (pc + 3) loc st σ
  | .if_icmp .eq o => mxic_eq (mxtgt pc o) (pc + 3) loc st σ
  | .if_icmp .ne o => mxic_ne (mxtgt pc o) (pc + 3) loc st σ
  | .if_icmp .lt o => mxic_lt (mxtgt pc o) (pc + 3) loc st σ
  | .if_icmp .ge o => mxic_ge (mxtgt pc o) (pc + 3) loc st σ
  | .if_icmp .gt o => mxic_gt (mxtgt pc o) (pc + 3) loc st σ
  | .if_icmp .le o => mxic_le (mxtgt pc o) (pc + 3) loc st σ
  | .if_acmp .eq o => mxca true (mxtgt pc o) (pc + 3) loc st σ
  | .if_acmp .ne o => mxca false (mxtgt pc o) (pc + 3) loc st σ
  | .goto o => mxgo (mxtgt pc o) loc st σ
  | .tableswitch d lo hi os => if os.size = (hi - lo + 1).toNat then mxsw (mxTabs pc lo os.toList) (mxtgt pc d) loc st σ else none
  | .lookupswitch d ps => mxsw (ps.toList.map (fun q => (q.1, mxtgt pc q.2))) (mxtgt pc d) loc st σ
  | .dup => mxdup (pc + 1) loc st σ
  | .dup2 => mxdup2 (pc + 1) loc st σ
  | .pop => mxpop (pc + 1) loc st σ
  | .getfield i => match mxFl (y / 128) i with
    | some q => mxgf q.1 q.2.1 (pc + 3) loc st σ
    | none => none
  | .putfield i => match mxFl (y / 128) i with
    | some q => if mxfok y q.1 q.2.1 = true then mxpf q.1 q.2.1 q.2.2 (pc + 3) loc st σ else none
    | none => none
  | .getstatic i => match mxSl (y / 128) i with
    | some v => mxgo (pc + 3) loc (v :: st) σ
    | none => none
  | .ldc i => match mxLl (y / 128) i with
    | some v => if v.category = 1 then mxgo (pc + 2) loc (v :: st) σ else none
    | none => none
  | .ldc2_w i => match mxLl (y / 128) i with
    | some v => if v.category = 2 then mxgo (pc + 3) loc (v :: st) σ else none
    | none => none
  | .new i => match mxNl (y / 128) i with
    | some q => mxnew q.1 q.2 (pc + 3) loc st σ
    | none => match mxTl y pc with
      | some q => mxthr q st
      | none => none
  | .newarray t => match mxatype t with
    | some k => mxna k (pc + 2) loc st σ
    | none => none
  | .anewarray i => match mxAl2 (y / 128) i with
    | some k => mxna k (pc + 3) loc st σ
    | none => none
  | .arraylength => mxlen (pc + 1) loc st σ
  | .iaload => mxal (fun t => t == 0) (pc + 1) loc st σ
  | .baload => mxal (fun t => t == 2 || t == 3) (pc + 1) loc st σ
  | .laload => mxalJ (pc + 1) loc st σ
  | .aaload => mxalA (pc + 1) loc st σ
  | .iastore => mxas (fun t => t == 0) (fun x => x) (pc + 1) loc st σ
  | .bastore => mxasB (pc + 1) loc st σ
  | .lastore => mxasJ (pc + 1) loc st σ
  | .aastore => mxasA (pc + 1) loc st σ
  | .invokevirtual i => match mxVl (y / 128) i with
    | some q => if mxsV q.1 = true then mxinv q pc loc st σ else none
    | none => none
  | .invokestatic i => match mxVl (y / 128) i with
    | some q => if mxsS q.1 = true then mxinv q pc loc st σ else none
    | none => none
  | .invokespecial i => match mxVl (y / 128) i with
    | some q => if mxsI q.1 = true then mxinv q pc loc st σ else none
    | none => none
  | .ireturn => if mxrk y ≤ 3 then mxret (mxrk y) st else none
  | .lreturn => if mxrk y = 4 then mxret (mxrk y) st else none
  | .dreturn => if mxrk y = 5 then mxret (mxrk y) st else none
  | .areturn => if mxrk y = 6 then mxret (mxrk y) st else none
  | .return_ => if mxrk y = 7 then mxret (mxrk y) st else none
  | _ => none
def mxM (y pc : Nat) (loc : mxL) (st : List Value) (σ : mxS) : Except DecodeError (Instr × Nat) → Option mxAct
  | .ok (i, n) => if mxLn i pc n = true then mxSem y pc loc st σ i else none
  | .error _ => none
def mxStep (y pc : Nat) (loc : mxL) (st : List Value) (σ : mxS) : Option mxAct := mxM y pc loc st σ (decode (mxb y) pc)
/-- the locals at a method's entry -/
def mxargs : List Value → mxL
  | [] => []
  | v :: l => if v.category = 2 then some v :: none :: mxargs l else some v :: mxargs l
def mxpad (n : Nat) (l : mxL) : mxL := l ++ List.replicate (n - l.length) none
def mxent (y : Nat) (as : List Value) : Option mxL := if (mxargs as).length ≤ mxml y then some (mxpad (mxml y) (mxargs as)) else none
/-- methods that may throw: those of the class itself, not its constructor -/
def mxmt (y : Nat) : Prop := y / 128 = 9 ∧ y ≠ 1152
/-- a local is forgotten -/
def mxdrop : mxL → Nat → mxL
  | [], _ => []
  | _ :: l, 0 => none :: l
  | p :: l, 1 => mxkill p :: mxdrop l 0
  | p :: l, k + 2 => p :: mxdrop l (k + 1)
/-- the run: fuel, calls that may stand open, method, place, locals, stack, state -/
def mxrun : Nat → Nat → Nat → Nat → mxL → List Value → mxS → Option mxR
  | 0, _, _, _, _, _, _ => none
  | n + 1, d, y, pc, loc, st, σ => match mxStep y pc loc st σ with
    | none => none
    | some (.inl (pc', loc', st', σ')) => mxrun n d y pc' loc' st' σ'
    | some (.inr (.inl v)) => some (.inl v, σ)
    | some (.inr (.inr (.inr q))) => some (.inr q, mxAl σ (.inr (99, [])) 6)
    | some (.inr (.inr (.inl (y', as, r)))) => if d = 0 then none else match mxent y' as with
      | none => none
      | some loc' => match mxrun n (d - 1) y' 0 loc' [] σ with
        | none => none
        | some (.inl v, σ') => mxrun n d y (pc + 3) loc (v.toList ++ r) σ'
        | some (.inr q, σ') => if y' / 128 = 9 ∧ y' ≠ 1152 then (match mxHl y pc q with
          | some (t, k) => mxrun n d y t (mxdrop loc k) [] σ'
          | none => some (.inr q, σ')) else none
/-- from here the run ends, so that Q -/
def WP (d y pc : Nat) (loc : mxL) (st : List Value) (σ : mxS) (Q : Option Value ⊕ Nat → mxS → Prop) : Prop := ∃ n r, mxrun n d y pc loc st σ = some r ∧ Q r.1 r.2
theorem mxrun_mono : ∀ (n d y pc : Nat) (loc : mxL) (st : List Value) (σ : mxS) (r : mxR), mxrun n d y pc loc st σ = some r → ∀ m, n ≤ m → mxrun m d y pc loc st σ = some r
  | 0, _, _, _, _, _, _, _, h, _, _ => nomatch h
  | n + 1, d, y, pc, loc, st, σ, r, h, m, hm => by
    obtain ⟨m, rfl⟩ : ∃ k, m = k + 1 := ⟨m - 1, by omega⟩
    have hm' : n ≤ m := by omega
    rw [mxrun] at h ⊢
    cases hs : mxStep y pc loc st σ with
    | none => rw [hs] at h; cases h
    | some a =>
      rw [hs] at h
      match a, h with
      | .inl (pc', loc', st', σ'), h => exact mxrun_mono n d y pc' loc' st' σ' r h m hm'
      | .inr (.inl v), h => exact h
      | .inr (.inr (.inr q)), h => exact h
      | .inr (.inr (.inl (y', as, rs))), h =>
        dsimp only at h ⊢
        by_cases hd : d = 0
        · rw [if_pos hd] at h; cases h
        · rw [if_neg hd] at h ⊢
          cases he : mxent y' as with
          | none => rw [he] at h; cases h
          | some loc' =>
            rw [he] at h
            dsimp only at h ⊢
            cases hc : mxrun n (d - 1) y' 0 loc' [] σ with
            | none => rw [hc] at h; cases h
            | some b =>
              rw [hc] at h
              rw [mxrun_mono n _ _ _ _ _ _ _ hc m hm']
              match b, h with
              | (.inl v, σ'), h => exact mxrun_mono n _ _ _ _ _ _ _ h m hm'
              | (.inr q, σ'), h =>
                dsimp only at h ⊢
                by_cases hy : y' / 128 = 9 ∧ y' ≠ 1152
                · rw [if_pos hy] at h ⊢
                  cases hh : mxHl y pc q with
                  | none => rw [hh] at h; exact h
                  | some tk =>
                    rw [hh] at h
                    obtain ⟨t, k⟩ := tk
                    exact mxrun_mono n _ _ _ _ _ _ _ h m hm'
                · rw [if_neg hy] at h; cases h
/-- what goes on behind a call of y' -/
def mxK (d y pc : Nat) (loc : mxL) (r : List Value) (Q : Option Value ⊕ Nat → mxS → Prop) (y' : Nat) : Option Value ⊕ Nat → mxS → Prop := fun o σ' => match o with
  | .inl v => WP d y (pc + 3) loc (v.toList ++ r) σ' Q
  | .inr q => mxmt y' ∧ (match mxHl y pc q with
    | some (t, k) => WP d y t (mxdrop loc k) [] σ' Q
    | none => Q (.inr q) σ')
def mxC1 (d y pc : Nat) (loc : mxL) (r : List Value) (Q : Option Value ⊕ Nat → mxS → Prop) (y' : Nat) (σ : mxS) : Option mxL → Prop
  | some loc' => 1 ≤ d ∧ WP (d - 1) y' 0 loc' [] σ (mxK d y pc loc r Q y')
  | none => False
/-- what an act leads to -/
def WA (d y pc : Nat) (loc : mxL) (σ : mxS) (Q : Option Value ⊕ Nat → mxS → Prop) : Option mxAct → Prop
  | none => False
  | some (.inl (pc', loc', st', σ')) => WP d y pc' loc' st' σ' Q
  | some (.inr (.inl v)) => Q (.inl v) σ
  | some (.inr (.inr (.inr q))) => Q (.inr q) (mxAl σ (.inr (99, [])) 6)
  | some (.inr (.inr (.inl (y', as, r)))) => mxC1 d y pc loc r Q y' σ (mxent y' as)
theorem WP_eq (d y pc : Nat) (loc : mxL) (st : List Value) (σ : mxS) (Q : Option Value ⊕ Nat → mxS → Prop) : WP d y pc loc st σ Q = WA d y pc loc σ Q (mxStep y pc loc st σ) := by
  apply propext
  constructor
  · rintro ⟨n, r, h, hq⟩
    cases n with
    | zero => cases h
    | succ n =>
      rw [mxrun] at h
      cases hs : mxStep y pc loc st σ with
      | none => rw [hs] at h; cases h
      | some a =>
        rw [hs] at h
        match a, h with
        | .inl (pc', loc', st', σ'), h => exact ⟨n, r, h, hq⟩
        | .inr (.inl v), h => cases h; exact hq
        | .inr (.inr (.inr q)), h => cases h; exact hq
        | .inr (.inr (.inl (y', as, rs))), h =>
          dsimp only at h
          by_cases hd : d = 0
          · rw [if_pos hd] at h; cases h
          · rw [if_neg hd] at h
            show mxC1 d y pc loc rs Q y' σ (mxent y' as)
            cases he : mxent y' as with
            | none => rw [he] at h; cases h
            | some loc' =>
              rw [he] at h
              dsimp only at h
              refine ⟨by omega, ?_⟩
              cases hc : mxrun n (d - 1) y' 0 loc' [] σ with
              | none => rw [hc] at h; cases h
              | some b =>
                rw [hc] at h
                refine ⟨n, b, hc, ?_⟩
                match b, h with
                | (.inl v, σ'), h => exact ⟨n, r, h, hq⟩
                | (.inr q, σ'), h =>
                  dsimp only at h
                  by_cases hy : y' / 128 = 9 ∧ y' ≠ 1152
                  · rw [if_pos hy] at h
                    refine ⟨hy, ?_⟩
                    cases hh : mxHl y pc q with
                    | none => rw [hh] at h; cases h; exact hq
                    | some tk =>
                      rw [hh] at h
                      obtain ⟨t, k⟩ := tk
                      exact ⟨n, r, h, hq⟩
                  · rw [if_neg hy] at h; cases h
  · intro h
    cases hs : mxStep y pc loc st σ with
    | none => rw [hs] at h; exact h.elim
    | some a =>
      rw [hs] at h
      match a, hs, h with
      | .inl (pc', loc', st', σ'), hs, ⟨n, r, h, hq⟩ => exact ⟨n + 1, r, by rw [mxrun, hs]; exact h, hq⟩
      | .inr (.inl v), hs, h => exact ⟨1, (.inl v, σ), by rw [mxrun, hs], h⟩
      | .inr (.inr (.inr q)), hs, h => exact ⟨1, (.inr q, mxAl σ (.inr (99, [])) 6), by rw [mxrun, hs], h⟩
      | .inr (.inr (.inl (y', as, rs))), hs, h =>
        replace h : mxC1 d y pc loc rs Q y' σ (mxent y' as) := h
        cases he : mxent y' as with
        | none => rw [he] at h; exact h.elim
        | some loc' =>
          rw [he] at h
          obtain ⟨hd, n, b, hb, h⟩ := h
          match b, hb, h with
          | (.inl v, σ'), hb, ⟨m, r, h, hq⟩ =>
            refine ⟨n + m + 1, r, ?_, hq⟩
            rw [mxrun, hs]
            dsimp only
            rw [if_neg (by omega), he]
            dsimp only
            rw [mxrun_mono _ _ _ _ _ _ _ _ hb _ (by omega)]
            exact mxrun_mono _ _ _ _ _ _ _ _ h _ (by omega)
          | (.inr q, σ'), hb, h =>
            obtain ⟨hy, h⟩ := h
            have hy' : y' / 128 = 9 ∧ y' ≠ 1152 := hy
            cases hh : mxHl y pc q with
            | none =>
              rw [hh] at h
              refine ⟨n + 1, (.inr q, σ'), ?_, h⟩
              rw [mxrun, hs]
              dsimp only
              rw [if_neg (by omega), he]
              dsimp only
              rw [hb]
              dsimp only
              rw [if_pos hy', hh]
            | some tk =>
              obtain ⟨t, k⟩ := tk
              rw [hh] at h
              obtain ⟨m, r, h, hq⟩ := h
              refine ⟨n + m + 1, r, ?_, hq⟩
              rw [mxrun, hs]
              dsimp only
              rw [if_neg (by omega), he]
              dsimp only
              rw [mxrun_mono _ _ _ _ _ _ _ _ hb _ (by omega)]
              dsimp only
              rw [if_pos hy', hh]
              exact mxrun_mono _ _ _ _ _ _ _ _ h _ (by omega)
/-- Q may be weaker -/
theorem WP.imp {d y pc : Nat} {loc : mxL} {st : List Value} {σ : mxS} {Q Q' : Option Value ⊕ Nat → mxS → Prop} (h : WP d y pc loc st σ Q) (hq : ∀ o σ', Q o σ' → Q' o σ') : WP d y pc loc st σ Q' := by
  obtain ⟨n, r, h1, h2⟩ := h
  exact ⟨n, r, h1, hq _ _ h2⟩
/-- what a method answers, said once, serves every call -/
theorem WP.use {d y pc : Nat} {loc : mxL} {st : List Value} {σ σ' : mxS} {o : Option Value ⊕ Nat} (h : WP d y pc loc st σ (fun a b => a = o ∧ b = σ')) (Q : Option Value ⊕ Nat → mxS → Prop) : WP d y pc loc st σ Q = Q o σ' := by
  obtain ⟨n, r, h1, h2, h3⟩ := h
  apply propext
  constructor
  · rintro ⟨m, r', g1, g2⟩
    have e1 := mxrun_mono _ _ _ _ _ _ _ _ h1 (n + m) (by omega)
    have e2 := mxrun_mono _ _ _ _ _ _ _ _ g1 (n + m) (by omega)
    rw [e1] at e2
    cases e2
    rw [← h2, ← h3]
    exact g2
  · intro q
    exact ⟨n, r, h1, by rw [h2, h3]; exact q⟩
/-! ===== generic rows: what a step does, by opcode ===== -/
theorem mx_iload_n {y pc : Nat} {loc : mxL} {st : List Value} {σ : mxS} {k : Fin 4} (hd : decode (mxb y) pc = .ok (.iload_n k, 1)) : mxStep y pc loc st σ = mxldI (pc + 1) loc st σ (mxat loc k.val) := by rw [mxStep, hd]; rfl
theorem mx_iload {y pc : Nat} {loc : mxL} {st : List Value} {σ : mxS} {k : Nat} (hd : decode (mxb y) pc = .ok (.iload k, 2)) : mxStep y pc loc st σ = mxldI (pc + 2) loc st σ (mxat loc k) := by rw [mxStep, hd]; rfl
theorem mx_istore_n {y pc : Nat} {loc : mxL} {st : List Value} {σ : mxS} {k : Fin 4} (hd : decode (mxb y) pc = .ok (.istore_n k, 1)) : mxStep y pc loc st σ = mxstI k.val (pc + 1) loc st σ := by rw [mxStep, hd]; rfl
theorem mx_istore {y pc : Nat} {loc : mxL} {st : List Value} {σ : mxS} {k : Nat} (hd : decode (mxb y) pc = .ok (.istore k, 2)) : mxStep y pc loc st σ = mxstI k (pc + 2) loc st σ := by rw [mxStep, hd]; rfl
theorem mx_lload_n {y pc : Nat} {loc : mxL} {st : List Value} {σ : mxS} {k : Fin 4} (hd : decode (mxb y) pc = .ok (.lload_n k, 1)) : mxStep y pc loc st σ = mxldJ (pc + 1) loc st σ (mxat loc k.val) := by rw [mxStep, hd]; rfl
theorem mx_lload {y pc : Nat} {loc : mxL} {st : List Value} {σ : mxS} {k : Nat} (hd : decode (mxb y) pc = .ok (.lload k, 2)) : mxStep y pc loc st σ = mxldJ (pc + 2) loc st σ (mxat loc k) := by rw [mxStep, hd]; rfl
theorem mx_lstore_n {y pc : Nat} {loc : mxL} {st : List Value} {σ : mxS} {k : Fin 4} (hd : decode (mxb y) pc = .ok (.lstore_n k, 1)) : mxStep y pc loc st σ = mxstJ k.val (pc + 1) loc st σ := by rw [mxStep, hd]; rfl
theorem mx_lstore {y pc : Nat} {loc : mxL} {st : List Value} {σ : mxS} {k : Nat} (hd : decode (mxb y) pc = .ok (.lstore k, 2)) : mxStep y pc loc st σ = mxstJ k (pc + 2) loc st σ := by rw [mxStep, hd]; rfl
theorem mx_dload_n {y pc : Nat} {loc : mxL} {st : List Value} {σ : mxS} {k : Fin 4} (hd : decode (mxb y) pc = .ok (.dload_n k, 1)) : mxStep y pc loc st σ = mxldD (pc + 1) loc st σ (mxat loc k.val) := by rw [mxStep, hd]; rfl
theorem mx_dload {y pc : Nat} {loc : mxL} {st : List Value} {σ : mxS} {k : Nat} (hd : decode (mxb y) pc = .ok (.dload k, 2)) : mxStep y pc loc st σ = mxldD (pc + 2) loc st σ (mxat loc k) := by rw [mxStep, hd]; rfl
theorem mx_dstore_n {y pc : Nat} {loc : mxL} {st : List Value} {σ : mxS} {k : Fin 4} (hd : decode (mxb y) pc = .ok (.dstore_n k, 1)) : mxStep y pc loc st σ = mxstD k.val (pc + 1) loc st σ := by rw [mxStep, hd]; rfl
theorem mx_dstore {y pc : Nat} {loc : mxL} {st : List Value} {σ : mxS} {k : Nat} (hd : decode (mxb y) pc = .ok (.dstore k, 2)) : mxStep y pc loc st σ = mxstD k (pc + 2) loc st σ := by rw [mxStep, hd]; rfl
theorem mx_aload_n {y pc : Nat} {loc : mxL} {st : List Value} {σ : mxS} {k : Fin 4} (hd : decode (mxb y) pc = .ok (.aload_n k, 1)) : mxStep y pc loc st σ = mxldA (pc + 1) loc st σ (mxat loc k.val) := by rw [mxStep, hd]; rfl
theorem mx_aload {y pc : Nat} {loc : mxL} {st : List Value} {σ : mxS} {k : Nat} (hd : decode (mxb y) pc = .ok (.aload k, 2)) : mxStep y pc loc st σ = mxldA (pc + 2) loc st σ (mxat loc k) := by rw [mxStep, hd]; rfl
theorem mx_astore_n {y pc : Nat} {loc : mxL} {st : List Value} {σ : mxS} {k : Fin 4} (hd : decode (mxb y) pc = .ok (.astore_n k, 1)) : mxStep y pc loc st σ = mxstA k.val (pc + 1) loc st σ := by rw [mxStep, hd]; rfl
theorem mx_astore {y pc : Nat} {loc : mxL} {st : List Value} {σ : mxS} {k : Nat} (hd : decode (mxb y) pc = .ok (.astore k, 2)) : mxStep y pc loc st σ = mxstA k (pc + 2) loc st σ := by rw [mxStep, hd]; rfl
theorem mx_iconst {y pc : Nat} {loc : mxL} {st : List Value} {σ : mxS} {n : Int} {v : Int32} (hd : decode (mxb y) pc = .ok (.iconst n, 1)) (hv : Int32.ofInt n = v) : mxStep y pc loc st σ = mxgo (pc + 1) loc (.int v :: st) σ := by rw [mxStep, hd, ← hv]; rfl
theorem mx_lconst {y pc : Nat} {loc : mxL} {st : List Value} {σ : mxS} {n : Fin 2} {v : Int64} (hd : decode (mxb y) pc = .ok (.lconst n, 1)) (hv : Int64.ofNat n.val = v) : mxStep y pc loc st σ = mxgo (pc + 1) loc (.long v :: st) σ := by rw [mxStep, hd, ← hv]; rfl
theorem mx_dconst {y pc : Nat} {loc : mxL} {st : List Value} {σ : mxS} (hd : decode (mxb y) pc = .ok (.dconst 0, 1)) : mxStep y pc loc st σ = mxgo (pc + 1) loc (.double FP.dconst0 :: st) σ := by rw [mxStep, hd]; rfl
theorem mx_bipush {y pc : Nat} {loc : mxL} {st : List Value} {σ : mxS} {n : Int} {v : Int32} (hd : decode (mxb y) pc = .ok (.bipush n, 2)) (hv : (Int8.ofInt n).toInt32 = v) : mxStep y pc loc st σ = mxgo (pc + 2) loc (.int v :: st) σ := by rw [mxStep, hd, ← hv]; rfl
theorem mx_sipush {y pc : Nat} {loc : mxL} {st : List Value} {σ : mxS} {n : Int} {v : Int32} (hd : decode (mxb y) pc = .ok (.sipush n, 3)) (hv : (Int16.ofInt n).toInt32 = v) : mxStep y pc loc st σ = mxgo (pc + 3) loc (.int v :: st) σ := by rw [mxStep, hd, ← hv]; rfl
theorem mx_iinc {y pc : Nat} {loc : mxL} {st : List Value} {σ : mxS} {k : Nat} {n : Int} (hd : decode (mxb y) pc = .ok (.iinc k n, 3)) : mxStep y pc loc st σ = mxinc k n (pc + 3) loc st σ (mxat loc k) := by rw [mxStep, hd]; rfl
theorem mx_iadd {y pc : Nat} {loc : mxL} {st : List Value} {σ : mxS} (hd : decode (mxb y) pc = .ok (.iadd, 1)) : mxStep y pc loc st σ = mxI2 (fun x y => x + y) (pc + 1) loc st σ := by rw [mxStep, hd]; rfl
theorem mx_isub {y pc : Nat} {loc : mxL} {st : List Value} {σ : mxS} (hd : decode (mxb y) pc = .ok (.isub, 1)) : mxStep y pc loc st σ = mxI2 (fun x y => x - y) (pc + 1) loc st σ := by rw [mxStep, hd]; rfl
theorem mx_imul {y pc : Nat} {loc : mxL} {st : List Value} {σ : mxS} (hd : decode (mxb y) pc = .ok (.imul, 1)) : mxStep y pc loc st σ = mxI2 (fun x y => x * y) (pc + 1) loc st σ := by rw [mxStep, hd]; rfl
theorem mx_iand {y pc : Nat} {loc : mxL} {st : List Value} {σ : mxS} (hd : decode (mxb y) pc = .ok (.iand, 1)) : mxStep y pc loc st σ = mxI2 (fun x y => x &&& y) (pc + 1) loc st σ := by rw [mxStep, hd]; rfl
theorem mx_ior {y pc : Nat} {loc : mxL} {st : List Value} {σ : mxS} (hd : decode (mxb y) pc = .ok (.ior, 1)) : mxStep y pc loc st σ = mxI2 (fun x y => x ||| y) (pc + 1) loc st σ := by rw [mxStep, hd]; rfl
theorem mx_ixor {y pc : Nat} {loc : mxL} {st : List Value} {σ : mxS} (hd : decode (mxb y) pc = .ok (.ixor, 1)) : mxStep y pc loc st σ = mxI2 (fun x y => x ^^^ y) (pc + 1) loc st σ := by rw [mxStep, hd]; rfl
theorem mx_ishl {y pc : Nat} {loc : mxL} {st : List Value} {σ : mxS} (hd : decode (mxb y) pc = .ok (.ishl, 1)) : mxStep y pc loc st σ = mxI2 (fun x y => x <<< (y &&& 31)) (pc + 1) loc st σ := by rw [mxStep, hd]; rfl
theorem mx_ishr {y pc : Nat} {loc : mxL} {st : List Value} {σ : mxS} (hd : decode (mxb y) pc = .ok (.ishr, 1)) : mxStep y pc loc st σ = mxI2 (fun x y => x >>> (y &&& 31)) (pc + 1) loc st σ := by rw [mxStep, hd]; rfl
theorem mx_idiv {y pc : Nat} {loc : mxL} {st : List Value} {σ : mxS} (hd : decode (mxb y) pc = .ok (.idiv, 1)) : mxStep y pc loc st σ = mxI2z (fun x y => x / y) (pc + 1) loc st σ := by rw [mxStep, hd]; rfl
theorem mx_irem {y pc : Nat} {loc : mxL} {st : List Value} {σ : mxS} (hd : decode (mxb y) pc = .ok (.irem, 1)) : mxStep y pc loc st σ = mxI2z (fun x y => x - x / y * y) (pc + 1) loc st σ := by rw [mxStep, hd]; rfl
theorem mx_ineg {y pc : Nat} {loc : mxL} {st : List Value} {σ : mxS} (hd : decode (mxb y) pc = .ok (.ineg, 1)) : mxStep y pc loc st σ = mxI1 (fun x => -x) (pc + 1) loc st σ := by rw [mxStep, hd]; rfl
theorem mx_i2b {y pc : Nat} {loc : mxL} {st : List Value} {σ : mxS} (hd : decode (mxb y) pc = .ok (.i2b, 1)) : mxStep y pc loc st σ = mxI1 (fun x => x.toInt8.toInt32) (pc + 1) loc st σ := by rw [mxStep, hd]; rfl
theorem mx_i2c {y pc : Nat} {loc : mxL} {st : List Value} {σ : mxS} (hd : decode (mxb y) pc = .ok (.i2c, 1)) : mxStep y pc loc st σ = mxI1 (fun x => (x.toUInt32 % 65536).toInt32) (pc + 1) loc st σ := by rw [mxStep, hd]; rfl
theorem mx_i2l {y pc : Nat} {loc : mxL} {st : List Value} {σ : mxS} (hd : decode (mxb y) pc = .ok (.i2l, 1)) : mxStep y pc loc st σ = mxI2J (pc + 1) loc st σ := by rw [mxStep, hd]; rfl
theorem mx_l2i {y pc : Nat} {loc : mxL} {st : List Value} {σ : mxS} (hd : decode (mxb y) pc = .ok (.l2i, 1)) : mxStep y pc loc st σ = mxJ2I (pc + 1) loc st σ := by rw [mxStep, hd]; rfl
theorem mx_i2d {y pc : Nat} {loc : mxL} {st : List Value} {σ : mxS} (hd : decode (mxb y) pc = .ok (.i2d, 1)) : mxStep y pc loc st σ = mxI2D (pc + 1) loc st σ := by rw [mxStep, hd]; rfl
theorem mx_lcmp {y pc : Nat} {loc : mxL} {st : List Value} {σ : mxS} (hd : decode (mxb y) pc = .ok (.lcmp, 1)) : mxStep y pc loc st σ = mxlcmp (pc + 1) loc st σ := by rw [mxStep, hd]; rfl
theorem mx_ddiv {y pc : Nat} {loc : mxL} {st : List Value} {σ : mxS} (hd : decode (mxb y) pc = .ok (.ddiv, 1)) : mxStep y pc loc st σ = mxddiv (pc + 1) loc st σ := by rw [mxStep, hd]; rfl
theorem mx_dcmp {y pc : Nat} {loc : mxL} {st : List Value} {σ : mxS} {op : CmpOp} (hd : decode (mxb y) pc = .ok (.dcmp op, 1)) : mxStep y pc loc st σ = mxdcmp op (pc + 1) loc st σ := by rw [mxStep, hd]; rfl
theorem mx_ladd {y pc : Nat} {loc : mxL} {st : List Value} {σ : mxS} (hd : decode (mxb y) pc = .ok (.ladd, 1)) : mxStep y pc loc st σ = mxJ2 (fun x y => x + y) (pc + 1) loc st σ := by rw [mxStep, hd]; rfl
theorem mx_lmul {y pc : Nat} {loc : mxL} {st : List Value} {σ : mxS} (hd : decode (mxb y) pc = .ok (.lmul, 1)) : mxStep y pc loc st σ = mxJ2 (fun x y => x * y) (pc + 1) loc st σ := by rw [mxStep, hd]; rfl
theorem mx_if_eq {y pc : Nat} {loc : mxL} {st : List Value} {σ : mxS} {o : Int} {t : Nat} (hd : decode (mxb y) pc = .ok (.ifCond .eq o, 3)) (hz : mxLn (.ifCond .eq o) pc 3 = true) (ht : mxtgt pc o = t) : mxStep y pc loc st σ = mxif_eq t (pc + 3) loc st σ := by rw [mxStep, hd, ← ht]; exact if_pos hz
theorem mx_ic_eq {y pc : Nat} {loc : mxL} {st : List Value} {σ : mxS} {o : Int} {t : Nat} (hd : decode (mxb y) pc = .ok (.if_icmp .eq o, 3)) (hz : mxLn (.if_icmp .eq o) pc 3 = true) (ht : mxtgt pc o = t) : mxStep y pc loc st σ = mxic_eq t (pc + 3) loc st σ := by rw [mxStep, hd, ← ht]; exact if_pos hz
theorem mx_if_ne {y pc : Nat} {loc : mxL} {st : List Value} {σ : mxS} {o : Int} {t : Nat} (hd : decode (mxb y) pc = .ok (.ifCond .ne o, 3)) (hz : mxLn (.ifCond .ne o) pc 3 = true) (ht : mxtgt pc o = t) : mxStep y pc loc st σ = mxif_ne t (pc + 3) loc st σ := by rw [mxStep, hd, ← ht]; exact if_pos hz
theorem mx_ic_ne {y pc : Nat} {loc : mxL} {st : List Value} {σ : mxS} {o : Int} {t : Nat} (hd : decode (mxb y) pc = .ok (.if_icmp .ne o, 3)) (hz : mxLn (.if_icmp .ne o) pc 3 = true) (ht : mxtgt pc o = t) : mxStep y pc loc st σ = mxic_ne t (pc + 3) loc st σ := by rw [mxStep, hd, ← ht]; exact if_pos hz
theorem mx_if_lt {y pc : Nat} {loc : mxL} {st : List Value} {σ : mxS} {o : Int} {t : Nat} (hd : decode (mxb y) pc = .ok (.ifCond .lt o, 3)) (hz : mxLn (.ifCond .lt o) pc 3 = true) (ht : mxtgt pc o = t) : mxStep y pc loc st σ = mxif_lt t (pc + 3) loc st σ := by rw [mxStep, hd, ← ht]; exact if_pos hz
theorem mx_ic_lt {y pc : Nat} {loc : mxL} {st : List Value} {σ : mxS} {o : Int} {t : Nat} (hd : decode (mxb y) pc = .ok (.if_icmp .lt o, 3)) (hz : mxLn (.if_icmp .lt o) pc 3 = true) (ht : mxtgt pc o = t) : mxStep y pc loc st σ = mxic_lt t (pc + 3) loc st σ := by rw [mxStep, hd, ← ht]; exact if_pos hz
theorem mx_if_ge {y pc : Nat} {loc : mxL} {st : List Value} {σ : mxS} {o : Int} {t : Nat} (hd : decode (mxb y) pc = .ok (.ifCond .ge o, 3)) (hz : mxLn (.ifCond .ge o) pc 3 = true) (ht : mxtgt pc o = t) : mxStep y pc loc st σ = mxif_ge t (pc + 3) loc st σ := by rw [mxStep, hd, ← ht]; exact if_pos hz
theorem mx_ic_ge {y pc : Nat} {loc : mxL} {st : List Value} {σ : mxS} {o : Int} {t : Nat} (hd : decode (mxb y) pc = .ok (.if_icmp .ge o, 3)) (hz : mxLn (.if_icmp .ge o) pc 3 = true) (ht : mxtgt pc o = t) : mxStep y pc loc st σ = mxic_ge t (pc + 3) loc st σ := by rw [mxStep, hd, ← ht]; exact if_pos hz
theorem mx_if_gt {y pc : Nat} {loc : mxL} {st : List Value} {σ : mxS} {o : Int} {t : Nat} (hd : decode (mxb y) pc = .ok (.ifCond .gt o, 3)) (hz : mxLn (.ifCond .gt o) pc 3 = true) (ht : mxtgt pc o = t) : mxStep y pc loc st σ = mxif_gt t (pc + 3) loc st σ := by rw [mxStep, hd, ← ht]; exact if_pos hz
theorem mx_ic_gt {y pc : Nat} {loc : mxL} {st : List Value} {σ : mxS} {o : Int} {t : Nat} (hd : decode (mxb y) pc = .ok (.if_icmp .gt o, 3)) (hz : mxLn (.if_icmp .gt o) pc 3 = true) (ht : mxtgt pc o = t) : mxStep y pc loc st σ = mxic_gt t (pc + 3) loc st σ := by rw [mxStep, hd, ← ht]; exact if_pos hz
theorem mx_if_le {y pc : Nat} {loc : mxL} {st : List Value} {σ : mxS} {o : Int} {t : Nat} (hd : decode (mxb y) pc = .ok (.ifCond .le o, 3)) (hz : mxLn (.ifCond .le o) pc 3 = true) (ht : mxtgt pc o = t) : mxStep y pc loc st σ = mxif_le t (pc + 3) loc st σ := by rw [mxStep, hd, ← ht]; exact if_pos hz
theorem mx_ic_le {y pc : Nat} {loc : mxL} {st : List Value} {σ : mxS} {o : Int} {t : Nat} (hd : decode (mxb y) pc = .ok (.if_icmp .le o, 3)) (hz : mxLn (.if_icmp .le o) pc 3 = true) (ht : mxtgt pc o = t) : mxStep y pc loc st σ = mxic_le t (pc + 3) loc st σ := by rw [mxStep, hd, ← ht]; exact if_pos hz
theorem mx_ca_eq {y pc : Nat} {loc : mxL} {st : List Value} {σ : mxS} {o : Int} {t : Nat} (hd : decode (mxb y) pc = .ok (.if_acmp .eq o, 3)) (hz : mxLn (.if_acmp .eq o) pc 3 = true) (ht : mxtgt pc o = t) : mxStep y pc loc st σ = mxca true t (pc + 3) loc st σ := by rw [mxStep, hd, ← ht]; exact if_pos hz
theorem mx_ca_ne {y pc : Nat} {loc : mxL} {st : List Value} {σ : mxS} {o : Int} {t : Nat} (hd : decode (mxb y) pc = .ok (.if_acmp .ne o, 3)) (hz : mxLn (.if_acmp .ne o) pc 3 = true) (ht : mxtgt pc o = t) : mxStep y pc loc st σ = mxca false t (pc + 3) loc st σ := by rw [mxStep, hd, ← ht]; exact if_pos hz
theorem mx_goto {y pc : Nat} {loc : mxL} {st : List Value} {σ : mxS} {o : Int} {t : Nat} (hd : decode (mxb y) pc = .ok (.goto o, 3)) (hz : mxLn (.goto o) pc 3 = true) (ht : mxtgt pc o = t) : mxStep y pc loc st σ = mxgo t loc st σ := by rw [mxStep, hd, ← ht]; exact if_pos hz
theorem mx_tsw {y pc : Nat} {loc : mxL} {st : List Value} {σ : mxS} {d lo hi : Int} {os : Array Int} {n dd : Nat} {ps : List (Int × Nat)} (hd : decode (mxb y) pc = .ok (.tableswitch d lo hi os, n)) (hz : mxLn (.tableswitch d lo hi os) pc n = true ∧ os.size = (hi - lo + 1).toNat) (hp : mxTabs pc lo os.toList = ps) (ht : mxtgt pc d = dd) : mxStep y pc loc st σ = mxsw ps dd loc st σ := by rw [mxStep, hd, ← ht, ← hp]; exact (if_pos hz.1).trans (if_pos hz.2)
theorem mx_lsw {y pc : Nat} {loc : mxL} {st : List Value} {σ : mxS} {d : Int} {qs : Array (Int × Int)} {n dd : Nat} {ps : List (Int × Nat)} (hd : decode (mxb y) pc = .ok (.lookupswitch d qs, n)) (hz : mxLn (.lookupswitch d qs) pc n = true) (hp : qs.toList.map (fun q => (q.1, mxtgt pc q.2)) = ps) (ht : mxtgt pc d = dd) : mxStep y pc loc st σ = mxsw ps dd loc st σ := by rw [mxStep, hd, ← ht, ← hp]; exact if_pos hz
theorem mx_dup {y pc : Nat} {loc : mxL} {st : List Value} {σ : mxS} (hd : decode (mxb y) pc = .ok (.dup, 1)) : mxStep y pc loc st σ = mxdup (pc + 1) loc st σ := by rw [mxStep, hd]; rfl
theorem mx_dup2 {y pc : Nat} {loc : mxL} {st : List Value} {σ : mxS} (hd : decode (mxb y) pc = .ok (.dup2, 1)) : mxStep y pc loc st σ = mxdup2 (pc + 1) loc st σ := by rw [mxStep, hd]; rfl
theorem mx_pop {y pc : Nat} {loc : mxL} {st : List Value} {σ : mxS} (hd : decode (mxb y) pc = .ok (.pop, 1)) : mxStep y pc loc st σ = mxpop (pc + 1) loc st σ := by rw [mxStep, hd]; rfl
theorem mx_getfield {y pc : Nat} {loc : mxL} {st : List Value} {σ : mxS} {i ci k t : Nat} (hd : decode (mxb y) pc = .ok (.getfield i, 3)) (hf : mxFl (y / 128) i = some (ci, k, t)) : mxStep y pc loc st σ = mxgf ci k (pc + 3) loc st σ := by rw [mxStep, hd]; simp only [mxM, mxLn, mxSem, hf]; rfl
theorem mx_putfield {y pc : Nat} {loc : mxL} {st : List Value} {σ : mxS} {i ci k t : Nat} (hd : decode (mxb y) pc = .ok (.putfield i, 3)) (hf : mxFl (y / 128) i = some (ci, k, t)) (hc : mxfok y ci k = true) : mxStep y pc loc st σ = mxpf ci k t (pc + 3) loc st σ := by rw [mxStep, hd]; simp only [mxM, mxLn, mxSem, hf, if_pos hc]; rfl
theorem mx_getstatic {y pc : Nat} {loc : mxL} {st : List Value} {σ : mxS} {i : Nat} {v : Value} (hd : decode (mxb y) pc = .ok (.getstatic i, 3)) (hf : mxSl (y / 128) i = some v) : mxStep y pc loc st σ = mxgo (pc + 3) loc (v :: st) σ := by rw [mxStep, hd]; simp only [mxM, mxLn, mxSem, hf]; rfl
theorem mx_ldc {y pc : Nat} {loc : mxL} {st : List Value} {σ : mxS} {i : Nat} {v : Value} (hd : decode (mxb y) pc = .ok (.ldc i, 2)) (hf : mxLl (y / 128) i = some v) (hv : v.category = 1) : mxStep y pc loc st σ = mxgo (pc + 2) loc (v :: st) σ := by rw [mxStep, hd]; simp only [mxM, mxLn, mxSem, hf, if_pos hv]; rfl
theorem mx_ldc2 {y pc : Nat} {loc : mxL} {st : List Value} {σ : mxS} {i : Nat} {v : Value} (hd : decode (mxb y) pc = .ok (.ldc2_w i, 3)) (hf : mxLl (y / 128) i = some v) (hv : v.category = 2) : mxStep y pc loc st σ = mxgo (pc + 3) loc (v :: st) σ := by rw [mxStep, hd]; simp only [mxM, mxLn, mxSem, hf, if_pos hv]; rfl
theorem mx_new {y pc : Nat} {loc : mxL} {st : List Value} {σ : mxS} {i ci : Nat} {fs : List Value} (hd : decode (mxb y) pc = .ok (.new i, 3)) (hf : mxNl (y / 128) i = some (ci, fs)) : mxStep y pc loc st σ = mxnew ci fs (pc + 3) loc st σ := by rw [mxStep, hd]; simp only [mxM, mxLn, mxSem, hf]; rfl
theorem mx_throw {y pc : Nat} {loc : mxL} {st : List Value} {σ : mxS} {i q : Nat} (hd : decode (mxb y) pc = .ok (.new i, 3)) (hf : mxNl (y / 128) i = none) (hq : mxTl y pc = some q) : mxStep y pc loc st σ = mxthr q st := by rw [mxStep, hd]; simp only [mxM, mxLn, mxSem, hf, hq]; rfl
theorem mx_newarray {y pc : Nat} {loc : mxL} {st : List Value} {σ : mxS} {a : ArrayType} {k : Nat} (hd : decode (mxb y) pc = .ok (.newarray a, 2)) (hf : mxatype a = some k) : mxStep y pc loc st σ = mxna k (pc + 2) loc st σ := by rw [mxStep, hd]; simp only [mxM, mxLn, mxSem, hf]; rfl
theorem mx_anewarray {y pc : Nat} {loc : mxL} {st : List Value} {σ : mxS} {i k : Nat} (hd : decode (mxb y) pc = .ok (.anewarray i, 3)) (hf : mxAl2 (y / 128) i = some k) : mxStep y pc loc st σ = mxna k (pc + 3) loc st σ := by rw [mxStep, hd]; simp only [mxM, mxLn, mxSem, hf]; rfl
theorem mx_alen {y pc : Nat} {loc : mxL} {st : List Value} {σ : mxS} (hd : decode (mxb y) pc = .ok (.arraylength, 1)) : mxStep y pc loc st σ = mxlen (pc + 1) loc st σ := by rw [mxStep, hd]; rfl
theorem mx_iaload {y pc : Nat} {loc : mxL} {st : List Value} {σ : mxS} (hd : decode (mxb y) pc = .ok (.iaload, 1)) : mxStep y pc loc st σ = mxal (fun t => t == 0) (pc + 1) loc st σ := by rw [mxStep, hd]; rfl
theorem mx_baload {y pc : Nat} {loc : mxL} {st : List Value} {σ : mxS} (hd : decode (mxb y) pc = .ok (.baload, 1)) : mxStep y pc loc st σ = mxal (fun t => t == 2 || t == 3) (pc + 1) loc st σ := by rw [mxStep, hd]; rfl
theorem mx_laload {y pc : Nat} {loc : mxL} {st : List Value} {σ : mxS} (hd : decode (mxb y) pc = .ok (.laload, 1)) : mxStep y pc loc st σ = mxalJ (pc + 1) loc st σ := by rw [mxStep, hd]; rfl
theorem mx_aaload {y pc : Nat} {loc : mxL} {st : List Value} {σ : mxS} (hd : decode (mxb y) pc = .ok (.aaload, 1)) : mxStep y pc loc st σ = mxalA (pc + 1) loc st σ := by rw [mxStep, hd]; rfl
theorem mx_iastore {y pc : Nat} {loc : mxL} {st : List Value} {σ : mxS} (hd : decode (mxb y) pc = .ok (.iastore, 1)) : mxStep y pc loc st σ = mxas (fun t => t == 0) (fun x => x) (pc + 1) loc st σ := by rw [mxStep, hd]; rfl
theorem mx_bastore {y pc : Nat} {loc : mxL} {st : List Value} {σ : mxS} (hd : decode (mxb y) pc = .ok (.bastore, 1)) : mxStep y pc loc st σ = mxasB (pc + 1) loc st σ := by rw [mxStep, hd]; rfl
theorem mx_lastore {y pc : Nat} {loc : mxL} {st : List Value} {σ : mxS} (hd : decode (mxb y) pc = .ok (.lastore, 1)) : mxStep y pc loc st σ = mxasJ (pc + 1) loc st σ := by rw [mxStep, hd]; rfl
theorem mx_aastore {y pc : Nat} {loc : mxL} {st : List Value} {σ : mxS} (hd : decode (mxb y) pc = .ok (.aastore, 1)) : mxStep y pc loc st σ = mxasA (pc + 1) loc st σ := by rw [mxStep, hd]; rfl
theorem mx_invvirtual {y pc : Nat} {loc : mxL} {st : List Value} {σ : mxS} {i : Nat} {q : Nat × Nat × Nat × Nat} {r : Option mxAct} (hd : decode (mxb y) pc = .ok (.invokevirtual i, 3)) (hf : mxVl (y / 128) i = some q) (hr : mxinv q pc loc st σ = r) (hs : mxsV q.1 = true) : mxStep y pc loc st σ = r := by rw [mxStep, hd, ← hr]; simp only [mxM, mxLn, mxSem, hf, if_pos hs]; rfl
theorem mx_invstatic {y pc : Nat} {loc : mxL} {st : List Value} {σ : mxS} {i : Nat} {q : Nat × Nat × Nat × Nat} {r : Option mxAct} (hd : decode (mxb y) pc = .ok (.invokestatic i, 3)) (hf : mxVl (y / 128) i = some q) (hr : mxinv q pc loc st σ = r) (hs : mxsS q.1 = true) : mxStep y pc loc st σ = r := by rw [mxStep, hd, ← hr]; simp only [mxM, mxLn, mxSem, hf, if_pos hs]; rfl
theorem mx_invspecial {y pc : Nat} {loc : mxL} {st : List Value} {σ : mxS} {i : Nat} {q : Nat × Nat × Nat × Nat} {r : Option mxAct} (hd : decode (mxb y) pc = .ok (.invokespecial i, 3)) (hf : mxVl (y / 128) i = some q) (hr : mxinv q pc loc st σ = r) (hs : mxsI q.1 = true) : mxStep y pc loc st σ = r := by rw [mxStep, hd, ← hr]; simp only [mxM, mxLn, mxSem, hf, if_pos hs]; rfl
theorem mx_ireturn {y pc : Nat} {loc : mxL} {st : List Value} {σ : mxS} {k : Nat} (hd : decode (mxb y) pc = .ok (.ireturn, 1)) (hk : mxrk y = k) (hc : k ≤ 3) : mxStep y pc loc st σ = mxret k st := by rw [mxStep, hd]; subst hk; simp only [mxM, mxLn, mxSem, if_pos hc]; rfl
theorem mx_lreturn {y pc : Nat} {loc : mxL} {st : List Value} {σ : mxS} {k : Nat} (hd : decode (mxb y) pc = .ok (.lreturn, 1)) (hk : mxrk y = k) (hc : k = 4) : mxStep y pc loc st σ = mxret k st := by rw [mxStep, hd]; subst hk; simp only [mxM, mxLn, mxSem, if_pos hc]; rfl
theorem mx_dreturn {y pc : Nat} {loc : mxL} {st : List Value} {σ : mxS} {k : Nat} (hd : decode (mxb y) pc = .ok (.dreturn, 1)) (hk : mxrk y = k) (hc : k = 5) : mxStep y pc loc st σ = mxret k st := by rw [mxStep, hd]; subst hk; simp only [mxM, mxLn, mxSem, if_pos hc]; rfl
theorem mx_areturn {y pc : Nat} {loc : mxL} {st : List Value} {σ : mxS} {k : Nat} (hd : decode (mxb y) pc = .ok (.areturn, 1)) (hk : mxrk y = k) (hc : k = 6) : mxStep y pc loc st σ = mxret k st := by rw [mxStep, hd]; subst hk; simp only [mxM, mxLn, mxSem, if_pos hc]; rfl
theorem mx_return_ {y pc : Nat} {loc : mxL} {st : List Value} {σ : mxS} {k : Nat} (hd : decode (mxb y) pc = .ok (.return_, 1)) (hk : mxrk y = k) (hc : k = 7) : mxStep y pc loc st σ = mxret k st := by rw [mxStep, hd]; subst hk; simp only [mxM, mxLn, mxSem, if_pos hc]; rfl
/-! ===== rows that reckon the parts ===== -/
def mxK2 (d y : Nat) (loc : mxL) (Q : Option Value ⊕ Nat → mxS → Prop) (q : Nat) (σ' : mxS) : Option (Nat × Nat) → Prop
  | some (t, k) => WP d y t (mxdrop loc k) [] σ' Q
  | none => Q (.inr q) σ'
theorem e_go (d y pc : Nat) (loc loc' : mxL) (σ σ' : mxS) (Q) (pc' : Nat) (st' : List Value) : WA d y pc loc σ Q (mxgo pc' loc' st' σ') = WP d y pc' loc' st' σ' Q := rfl
theorem e_none (d y pc : Nat) (loc : mxL) (σ : mxS) (Q) : WA d y pc loc σ Q none = False := rfl
theorem e_ite (d y pc : Nat) (loc : mxL) (σ : mxS) (Q) (c : Prop) [Decidable c] (a b : Option mxAct) : WA d y pc loc σ Q (if c then a else b) = if c then WA d y pc loc σ Q a else WA d y pc loc σ Q b := by split <;> rfl
theorem e_thr0 (q : Nat) : mxthr q [] = some (.inr (.inr (.inr q))) := rfl
theorem e_ret (d y pc : Nat) (loc : mxL) (σ : mxS) (Q) (v : Option Value) : WA d y pc loc σ Q (some (.inr (.inl v))) = Q (.inl v) σ := rfl
theorem e_thr (d y pc : Nat) (loc : mxL) (σ : mxS) (Q) (q : Nat) : WA d y pc loc σ Q (some (.inr (.inr (.inr q)))) = Q (.inr q) (mxAl σ (.inr (99, [])) 6) := rfl
theorem e_call (d y pc y' : Nat) (loc : mxL) (σ : mxS) (Q) (as r : List Value) : WA d y pc loc σ Q (some (.inr (.inr (.inl (y', as, r))))) = mxC1 d y pc loc r Q y' σ (mxent y' as) := rfl
theorem e_C1 (d y pc y' : Nat) (loc loc' : mxL) (σ : mxS) (Q) (r : List Value) : mxC1 d y pc loc r Q y' σ (some loc') = (1 ≤ d ∧ WP (d - 1) y' 0 loc' [] σ (mxK d y pc loc r Q y')) := rfl
theorem e_Kv (d y pc y' : Nat) (loc : mxL) (σ' : mxS) (Q) (v : Value) (r : List Value) : mxK d y pc loc r Q y' (.inl (some v)) σ' = WP d y (pc + 3) loc (v :: r) σ' Q := rfl
theorem e_Kn (d y pc y' : Nat) (loc : mxL) (σ' : mxS) (Q) (r : List Value) : mxK d y pc loc r Q y' (.inl none) σ' = WP d y (pc + 3) loc r σ' Q := rfl
theorem e_Kx (d y pc y' q : Nat) (loc : mxL) (σ' : mxS) (Q) (r : List Value) : mxK d y pc loc r Q y' (.inr q) σ' = (mxmt y' ∧ mxK2 d y loc Q q σ' (mxHl y pc q)) := rfl
theorem e_K2 (d y q t k : Nat) (loc : mxL) (σ' : mxS) (Q) : mxK2 d y loc Q q σ' (some (t, k)) = WP d y t (mxdrop loc k) [] σ' Q := rfl
theorem e_K20 (d y q : Nat) (loc : mxL) (σ' : mxS) (Q) : mxK2 d y loc Q q σ' none = Q (.inr q) σ' := rfl
theorem e_at0 ( b : Option Value) (l : mxL) : mxat (b :: l) 0 = b := rfl
theorem e_s1_0 (b : Option Value) (l : mxL) (v : Value) : mxst1 (b :: l) 0 v = some v :: l := rfl
theorem e_s2_0 (b c : Option Value) (l : mxL) (v : Value) : mxst2 (b :: c :: l) 0 v = some v :: none :: l := rfl
theorem e_at1 (a0 b : Option Value) (l : mxL) : mxat (a0 :: b :: l) 1 = b := rfl
theorem e_s1_1 (a0 b : Option Value) (l : mxL) (v : Value) : mxst1 (a0 :: b :: l) 1 v = mxkill a0 :: some v :: l := rfl
theorem e_s2_1 (a0 b c : Option Value) (l : mxL) (v : Value) : mxst2 (a0 :: b :: c :: l) 1 v = mxkill a0 :: some v :: none :: l := rfl
theorem e_at2 (a0 a1 b : Option Value) (l : mxL) : mxat (a0 :: a1 :: b :: l) 2 = b := rfl
theorem e_s1_2 (a0 a1 b : Option Value) (l : mxL) (v : Value) : mxst1 (a0 :: a1 :: b :: l) 2 v = a0 :: mxkill a1 :: some v :: l := rfl
theorem e_s2_2 (a0 a1 b c : Option Value) (l : mxL) (v : Value) : mxst2 (a0 :: a1 :: b :: c :: l) 2 v = a0 :: mxkill a1 :: some v :: none :: l := rfl
theorem e_at3 (a0 a1 a2 b : Option Value) (l : mxL) : mxat (a0 :: a1 :: a2 :: b :: l) 3 = b := rfl
theorem e_s1_3 (a0 a1 a2 b : Option Value) (l : mxL) (v : Value) : mxst1 (a0 :: a1 :: a2 :: b :: l) 3 v = a0 :: a1 :: mxkill a2 :: some v :: l := rfl
theorem e_s2_3 (a0 a1 a2 b c : Option Value) (l : mxL) (v : Value) : mxst2 (a0 :: a1 :: a2 :: b :: c :: l) 3 v = a0 :: a1 :: mxkill a2 :: some v :: none :: l := rfl
theorem e_at4 (a0 a1 a2 a3 b : Option Value) (l : mxL) : mxat (a0 :: a1 :: a2 :: a3 :: b :: l) 4 = b := rfl
theorem e_s1_4 (a0 a1 a2 a3 b : Option Value) (l : mxL) (v : Value) : mxst1 (a0 :: a1 :: a2 :: a3 :: b :: l) 4 v = a0 :: a1 :: a2 :: mxkill a3 :: some v :: l := rfl
theorem e_s2_4 (a0 a1 a2 a3 b c : Option Value) (l : mxL) (v : Value) : mxst2 (a0 :: a1 :: a2 :: a3 :: b :: c :: l) 4 v = a0 :: a1 :: a2 :: mxkill a3 :: some v :: none :: l := rfl
theorem e_at5 (a0 a1 a2 a3 a4 b : Option Value) (l : mxL) : mxat (a0 :: a1 :: a2 :: a3 :: a4 :: b :: l) 5 = b := rfl
theorem e_s1_5 (a0 a1 a2 a3 a4 b : Option Value) (l : mxL) (v : Value) : mxst1 (a0 :: a1 :: a2 :: a3 :: a4 :: b :: l) 5 v = a0 :: a1 :: a2 :: a3 :: mxkill a4 :: some v :: l := rfl
theorem e_s2_5 (a0 a1 a2 a3 a4 b c : Option Value) (l : mxL) (v : Value) : mxst2 (a0 :: a1 :: a2 :: a3 :: a4 :: b :: c :: l) 5 v = a0 :: a1 :: a2 :: a3 :: mxkill a4 :: some v :: none :: l := rfl
theorem e_at6 (a0 a1 a2 a3 a4 a5 b : Option Value) (l : mxL) : mxat (a0 :: a1 :: a2 :: a3 :: a4 :: a5 :: b :: l) 6 = b := rfl
theorem e_s1_6 (a0 a1 a2 a3 a4 a5 b : Option Value) (l : mxL) (v : Value) : mxst1 (a0 :: a1 :: a2 :: a3 :: a4 :: a5 :: b :: l) 6 v = a0 :: a1 :: a2 :: a3 :: a4 :: mxkill a5 :: some v :: l := rfl
theorem e_s2_6 (a0 a1 a2 a3 a4 a5 b c : Option Value) (l : mxL) (v : Value) : mxst2 (a0 :: a1 :: a2 :: a3 :: a4 :: a5 :: b :: c :: l) 6 v = a0 :: a1 :: a2 :: a3 :: a4 :: mxkill a5 :: some v :: none :: l := rfl
theorem e_at7 (a0 a1 a2 a3 a4 a5 a6 b : Option Value) (l : mxL) : mxat (a0 :: a1 :: a2 :: a3 :: a4 :: a5 :: a6 :: b :: l) 7 = b := rfl
theorem e_s1_7 (a0 a1 a2 a3 a4 a5 a6 b : Option Value) (l : mxL) (v : Value) : mxst1 (a0 :: a1 :: a2 :: a3 :: a4 :: a5 :: a6 :: b :: l) 7 v = a0 :: a1 :: a2 :: a3 :: a4 :: a5 :: mxkill a6 :: some v :: l := rfl
theorem e_s2_7 (a0 a1 a2 a3 a4 a5 a6 b c : Option Value) (l : mxL) (v : Value) : mxst2 (a0 :: a1 :: a2 :: a3 :: a4 :: a5 :: a6 :: b :: c :: l) 7 v = a0 :: a1 :: a2 :: a3 :: a4 :: a5 :: mxkill a6 :: some v :: none :: l := rfl
theorem e_at8 (a0 a1 a2 a3 a4 a5 a6 a7 b : Option Value) (l : mxL) : mxat (a0 :: a1 :: a2 :: a3 :: a4 :: a5 :: a6 :: a7 :: b :: l) 8 = b := rfl
theorem e_s1_8 (a0 a1 a2 a3 a4 a5 a6 a7 b : Option Value) (l : mxL) (v : Value) : mxst1 (a0 :: a1 :: a2 :: a3 :: a4 :: a5 :: a6 :: a7 :: b :: l) 8 v = a0 :: a1 :: a2 :: a3 :: a4 :: a5 :: a6 :: mxkill a7 :: some v :: l := rfl
theorem e_s2_8 (a0 a1 a2 a3 a4 a5 a6 a7 b c : Option Value) (l : mxL) (v : Value) : mxst2 (a0 :: a1 :: a2 :: a3 :: a4 :: a5 :: a6 :: a7 :: b :: c :: l) 8 v = a0 :: a1 :: a2 :: a3 :: a4 :: a5 :: a6 :: mxkill a7 :: some v :: none :: l := rfl
theorem e_at9 (a0 a1 a2 a3 a4 a5 a6 a7 a8 b : Option Value) (l : mxL) : mxat (a0 :: a1 :: a2 :: a3 :: a4 :: a5 :: a6 :: a7 :: a8 :: b :: l) 9 = b := rfl
theorem e_s1_9 (a0 a1 a2 a3 a4 a5 a6 a7 a8 b : Option Value) (l : mxL) (v : Value) : mxst1 (a0 :: a1 :: a2 :: a3 :: a4 :: a5 :: a6 :: a7 :: a8 :: b :: l) 9 v = a0 :: a1 :: a2 :: a3 :: a4 :: a5 :: a6 :: a7 :: mxkill a8 :: some v :: l := rfl
theorem e_s2_9 (a0 a1 a2 a3 a4 a5 a6 a7 a8 b c : Option Value) (l : mxL) (v : Value) : mxst2 (a0 :: a1 :: a2 :: a3 :: a4 :: a5 :: a6 :: a7 :: a8 :: b :: c :: l) 9 v = a0 :: a1 :: a2 :: a3 :: a4 :: a5 :: a6 :: a7 :: mxkill a8 :: some v :: none :: l := rfl
theorem e_at10 (a0 a1 a2 a3 a4 a5 a6 a7 a8 a9 b : Option Value) (l : mxL) : mxat (a0 :: a1 :: a2 :: a3 :: a4 :: a5 :: a6 :: a7 :: a8 :: a9 :: b :: l) 10 = b := rfl
theorem e_s1_10 (a0 a1 a2 a3 a4 a5 a6 a7 a8 a9 b : Option Value) (l : mxL) (v : Value) : mxst1 (a0 :: a1 :: a2 :: a3 :: a4 :: a5 :: a6 :: a7 :: a8 :: a9 :: b :: l) 10 v = a0 :: a1 :: a2 :: a3 :: a4 :: a5 :: a6 :: a7 :: a8 :: mxkill a9 :: some v :: l := rfl
theorem e_s2_10 (a0 a1 a2 a3 a4 a5 a6 a7 a8 a9 b c : Option Value) (l : mxL) (v : Value) : mxst2 (a0 :: a1 :: a2 :: a3 :: a4 :: a5 :: a6 :: a7 :: a8 :: a9 :: b :: c :: l) 10 v = a0 :: a1 :: a2 :: a3 :: a4 :: a5 :: a6 :: a7 :: a8 :: mxkill a9 :: some v :: none :: l := rfl
theorem e_at11 (a0 a1 a2 a3 a4 a5 a6 a7 a8 a9 a10 b : Option Value) (l : mxL) : mxat (a0 :: a1 :: a2 :: a3 :: a4 :: a5 :: a6 :: a7 :: a8 :: a9 :: a10 :: b :: l) 11 = b := rfl
theorem e_s1_11 (a0 a1 a2 a3 a4 a5 a6 a7 a8 a9 a10 b : Option Value) (l : mxL) (v : Value) : mxst1 (a0 :: a1 :: a2 :: a3 :: a4 :: a5 :: a6 :: a7 :: a8 :: a9 :: a10 :: b :: l) 11 v = a0 :: a1 :: a2 :: a3 :: a4 :: a5 :: a6 :: a7 :: a8 :: a9 :: mxkill a10 :: some v :: l := rfl
theorem e_s2_11 (a0 a1 a2 a3 a4 a5 a6 a7 a8 a9 a10 b c : Option Value) (l : mxL) (v : Value) : mxst2 (a0 :: a1 :: a2 :: a3 :: a4 :: a5 :: a6 :: a7 :: a8 :: a9 :: a10 :: b :: c :: l) 11 v = a0 :: a1 :: a2 :: a3 :: a4 :: a5 :: a6 :: a7 :: a8 :: a9 :: mxkill a10 :: some v :: none :: l := rfl
theorem e_at12 (a0 a1 a2 a3 a4 a5 a6 a7 a8 a9 a10 a11 b : Option Value) (l : mxL) : mxat (a0 :: a1 :: a2 :: a3 :: a4 :: a5 :: a6 :: a7 :: a8 :: a9 :: a10 :: a11 :: b :: l) 12 = b := rfl
theorem e_s1_12 (a0 a1 a2 a3 a4 a5 a6 a7 a8 a9 a10 a11 b : Option Value) (l : mxL) (v : Value) : mxst1 (a0 :: a1 :: a2 :: a3 :: a4 :: a5 :: a6 :: a7 :: a8 :: a9 :: a10 :: a11 :: b :: l) 12 v = a0 :: a1 :: a2 :: a3 :: a4 :: a5 :: a6 :: a7 :: a8 :: a9 :: a10 :: mxkill a11 :: some v :: l := rfl
theorem e_s2_12 (a0 a1 a2 a3 a4 a5 a6 a7 a8 a9 a10 a11 b c : Option Value) (l : mxL) (v : Value) : mxst2 (a0 :: a1 :: a2 :: a3 :: a4 :: a5 :: a6 :: a7 :: a8 :: a9 :: a10 :: a11 :: b :: c :: l) 12 v = a0 :: a1 :: a2 :: a3 :: a4 :: a5 :: a6 :: a7 :: a8 :: a9 :: a10 :: mxkill a11 :: some v :: none :: l := rfl
theorem e_at13 (a0 a1 a2 a3 a4 a5 a6 a7 a8 a9 a10 a11 a12 b : Option Value) (l : mxL) : mxat (a0 :: a1 :: a2 :: a3 :: a4 :: a5 :: a6 :: a7 :: a8 :: a9 :: a10 :: a11 :: a12 :: b :: l) 13 = b := rfl
theorem e_s1_13 (a0 a1 a2 a3 a4 a5 a6 a7 a8 a9 a10 a11 a12 b : Option Value) (l : mxL) (v : Value) : mxst1 (a0 :: a1 :: a2 :: a3 :: a4 :: a5 :: a6 :: a7 :: a8 :: a9 :: a10 :: a11 :: a12 :: b :: l) 13 v = a0 :: a1 :: a2 :: a3 :: a4 :: a5 :: a6 :: a7 :: a8 :: a9 :: a10 :: a11 :: mxkill a12 :: some v :: l := rfl
theorem e_s2_13 (a0 a1 a2 a3 a4 a5 a6 a7 a8 a9 a10 a11 a12 b c : Option Value) (l : mxL) (v : Value) : mxst2 (a0 :: a1 :: a2 :: a3 :: a4 :: a5 :: a6 :: a7 :: a8 :: a9 :: a10 :: a11 :: a12 :: b :: c :: l) 13 v = a0 :: a1 :: a2 :: a3 :: a4 :: a5 :: a6 :: a7 :: a8 :: a9 :: a10 :: a11 :: mxkill a12 :: some v :: none :: l := rfl
theorem e_kn : mxkill none = none := rfl
theorem e_ki (x : Int32) : mxkill (some (.int x)) = some (.int x) := rfl
theorem e_kj (x : Int64) : mxkill (some (.long x)) = none := rfl
theorem e_kd (x : UInt64) : mxkill (some (.double x)) = none := rfl
theorem e_kr (x : Nat) : mxkill (some (.ref x)) = some (.ref x) := rfl
theorem e_k0 : mxkill (some .null) = some .null := rfl
theorem e_lI (pc : Nat) (loc : mxL) (st : List Value) (σ : mxS) (x : Int32) : mxldI pc loc st σ (some (.int x)) = mxgo pc loc (.int x :: st) σ := rfl
theorem e_lJ (pc : Nat) (loc : mxL) (st : List Value) (σ : mxS) (x : Int64) : mxldJ pc loc st σ (some (.long x)) = mxgo pc loc (.long x :: st) σ := rfl
theorem e_lD (pc : Nat) (loc : mxL) (st : List Value) (σ : mxS) (x : UInt64) : mxldD pc loc st σ (some (.double x)) = mxgo pc loc (.double x :: st) σ := rfl
theorem e_lA (pc : Nat) (loc : mxL) (st : List Value) (σ : mxS) (x : Nat) : mxldA pc loc st σ (some (.ref x)) = mxgo pc loc (.ref x :: st) σ := rfl
theorem e_lA0 (pc : Nat) (loc : mxL) (st : List Value) (σ : mxS) : mxldA pc loc st σ (some .null) = mxgo pc loc (.null :: st) σ := rfl
theorem e_sI (k : Nat) (pc : Nat) (loc : mxL) (r : List Value) (σ : mxS) (x : Int32) : mxstI k pc loc (.int x :: r) σ = if k < loc.length then mxgo pc (mxst1 loc k (.int x)) r σ else none := rfl
theorem e_sJ (k : Nat) (pc : Nat) (loc : mxL) (r : List Value) (σ : mxS) (x : Int64) : mxstJ k pc loc (.long x :: r) σ = if k + 1 < loc.length then mxgo pc (mxst2 loc k (.long x)) r σ else none := rfl
theorem e_sD (k : Nat) (pc : Nat) (loc : mxL) (r : List Value) (σ : mxS) (x : UInt64) : mxstD k pc loc (.double x :: r) σ = if k + 1 < loc.length then mxgo pc (mxst2 loc k (.double x)) r σ else none := rfl
theorem e_sA (k : Nat) (pc : Nat) (loc : mxL) (r : List Value) (σ : mxS) (x : Nat) : mxstA k pc loc (.ref x :: r) σ = if k < loc.length then mxgo pc (mxst1 loc k (.ref x)) r σ else none := rfl
theorem e_sA0 (k : Nat) (pc : Nat) (loc : mxL) (r : List Value) (σ : mxS) : mxstA k pc loc (.null :: r) σ = if k < loc.length then mxgo pc (mxst1 loc k .null) r σ else none := rfl
theorem e_inc (k : Nat) (n : Int) (pc : Nat) (loc : mxL) (st : List Value) (σ : mxS) (x : Int32) : mxinc k n pc loc st σ (some (.int x)) = if k < loc.length then mxgo pc (mxst1 loc k (.int (x + Int32.ofInt n))) st σ else none := rfl
theorem e_I2 (f : Int32 → Int32 → Int32) (pc : Nat) (loc : mxL) (r : List Value) (σ : mxS) (x y : Int32) : mxI2 f pc loc (.int y :: .int x :: r) σ = mxgo pc loc (.int (f x y) :: r) σ := rfl
theorem e_I2z (f : Int32 → Int32 → Int32) (pc : Nat) (loc : mxL) (r : List Value) (σ : mxS) (x y : Int32) : mxI2z f pc loc (.int y :: .int x :: r) σ = if y = 0 then none else mxgo pc loc (.int (f x y) :: r) σ := rfl
theorem e_I1 (f : Int32 → Int32) (pc : Nat) (loc : mxL) (r : List Value) (σ : mxS) (x : Int32) : mxI1 f pc loc (.int x :: r) σ = mxgo pc loc (.int (f x) :: r) σ := rfl
theorem e_I2J (pc : Nat) (loc : mxL) (r : List Value) (σ : mxS) (x : Int32) : mxI2J pc loc (.int x :: r) σ = mxgo pc loc (.long x.toInt64 :: r) σ := rfl
theorem e_J2I (pc : Nat) (loc : mxL) (r : List Value) (σ : mxS) (x : Int64) : mxJ2I pc loc (.long x :: r) σ = mxgo pc loc (.int x.toInt32 :: r) σ := rfl
theorem e_I2D (pc : Nat) (loc : mxL) (r : List Value) (σ : mxS) (x : Int32) : mxI2D pc loc (.int x :: r) σ = mxgo pc loc (.double (FP.i2d x) :: r) σ := rfl
theorem e_J2 (f : Int64 → Int64 → Int64) (pc : Nat) (loc : mxL) (r : List Value) (σ : mxS) (x y : Int64) : mxJ2 f pc loc (.long y :: .long x :: r) σ = mxgo pc loc (.long (f x y) :: r) σ := rfl
theorem e_lcmp (pc : Nat) (loc : mxL) (r : List Value) (σ : mxS) (x y : Int64) : mxlcmp pc loc (.long y :: .long x :: r) σ = mxgo pc loc (.int (lg_cmp x y) :: r) σ := rfl
theorem e_dcmp (op : CmpOp) (pc : Nat) (loc : mxL) (r : List Value) (σ : mxS) (x y : UInt64) : mxdcmp op pc loc (.double y :: .double x :: r) σ = mxgo pc loc (.int (Op.cmpValue (FP.dcmp x y) op) :: r) σ := rfl
theorem e_ddiv (pc : Nat) (loc : mxL) (r : List Value) (σ : mxS) (x y : UInt64) : mxddiv pc loc (.double y :: .double x :: r) σ = if (FP.ddiv x y) &&& 0x7fffffffffffffff ≤ 0x7ff0000000000000 then mxgo pc loc (.double (FP.ddiv x y) :: r) σ else none := rfl
theorem e_ifeq (t : Nat) (pc : Nat) (loc : mxL) (r : List Value) (σ : mxS) (x : Int32) : mxif_eq t pc loc (.int x :: r) σ = if x = 0 then mxgo t loc r σ else mxgo pc loc r σ := rfl
theorem e_iceq (t : Nat) (pc : Nat) (loc : mxL) (r : List Value) (σ : mxS) (x y : Int32) : mxic_eq t pc loc (.int y :: .int x :: r) σ = if x = y then mxgo t loc r σ else mxgo pc loc r σ := rfl
theorem e_ifne (t : Nat) (pc : Nat) (loc : mxL) (r : List Value) (σ : mxS) (x : Int32) : mxif_ne t pc loc (.int x :: r) σ = if ¬ x = 0 then mxgo t loc r σ else mxgo pc loc r σ := rfl
theorem e_icne (t : Nat) (pc : Nat) (loc : mxL) (r : List Value) (σ : mxS) (x y : Int32) : mxic_ne t pc loc (.int y :: .int x :: r) σ = if ¬ x = y then mxgo t loc r σ else mxgo pc loc r σ := rfl
theorem e_iflt (t : Nat) (pc : Nat) (loc : mxL) (r : List Value) (σ : mxS) (x : Int32) : mxif_lt t pc loc (.int x :: r) σ = if x < 0 then mxgo t loc r σ else mxgo pc loc r σ := rfl
theorem e_iclt (t : Nat) (pc : Nat) (loc : mxL) (r : List Value) (σ : mxS) (x y : Int32) : mxic_lt t pc loc (.int y :: .int x :: r) σ = if x < y then mxgo t loc r σ else mxgo pc loc r σ := rfl
theorem e_ifge (t : Nat) (pc : Nat) (loc : mxL) (r : List Value) (σ : mxS) (x : Int32) : mxif_ge t pc loc (.int x :: r) σ = if 0 ≤ x then mxgo t loc r σ else mxgo pc loc r σ := rfl
theorem e_icge (t : Nat) (pc : Nat) (loc : mxL) (r : List Value) (σ : mxS) (x y : Int32) : mxic_ge t pc loc (.int y :: .int x :: r) σ = if y ≤ x then mxgo t loc r σ else mxgo pc loc r σ := rfl
theorem e_ifgt (t : Nat) (pc : Nat) (loc : mxL) (r : List Value) (σ : mxS) (x : Int32) : mxif_gt t pc loc (.int x :: r) σ = if 0 < x then mxgo t loc r σ else mxgo pc loc r σ := rfl
theorem e_icgt (t : Nat) (pc : Nat) (loc : mxL) (r : List Value) (σ : mxS) (x y : Int32) : mxic_gt t pc loc (.int y :: .int x :: r) σ = if y < x then mxgo t loc r σ else mxgo pc loc r σ := rfl
theorem e_ifle (t : Nat) (pc : Nat) (loc : mxL) (r : List Value) (σ : mxS) (x : Int32) : mxif_le t pc loc (.int x :: r) σ = if x ≤ 0 then mxgo t loc r σ else mxgo pc loc r σ := rfl
theorem e_icle (t : Nat) (pc : Nat) (loc : mxL) (r : List Value) (σ : mxS) (x y : Int32) : mxic_le t pc loc (.int y :: .int x :: r) σ = if x ≤ y then mxgo t loc r σ else mxgo pc loc r σ := rfl
theorem e_ca (w : Bool) (t : Nat) (pc : Nat) (loc : mxL) (r : List Value) (σ : mxS) (x y : Value) : mxca w t pc loc (y :: x :: r) σ = mxca2 w t pc loc r σ (mxen x) (mxen y) := rfl
theorem e_ca2 (w : Bool) (t : Nat) (pc : Nat) (loc : mxL) (r : List Value) (σ : mxS) (a b : Option Nat) : mxca2 w t pc loc r σ (some a) (some b) = if decide (a = b) = w then mxgo t loc r σ else mxgo pc loc r σ := rfl
theorem e_en (a : Nat) : mxen (.ref a) = if a < 47 then some (some a) else none := rfl
theorem e_en0 : mxen .null = some none := rfl
theorem e_sw (ps : List (Int × Nat)) (dd : Nat) (loc : mxL) (r : List Value) (σ : mxS) (x : Int32) : mxsw ps dd loc (.int x :: r) σ = mxgo (mxlk ps dd x.toInt) loc r σ := rfl
theorem e_lk0 (d : Nat) (x : Int) : mxlk [] d x = d := rfl
theorem e_lk (k : Int) (t d : Nat) (l : List (Int × Nat)) (x : Int) : mxlk ((k, t) :: l) d x = if x = k then t else mxlk l d x := rfl
theorem e_dup (pc : Nat) (loc : mxL) (r : List Value) (σ : mxS) (v : Value) : mxdup pc loc (v :: r) σ = if v.category = 1 then mxgo pc loc (v :: v :: r) σ else none := rfl
theorem e_dup2 (pc : Nat) (loc : mxL) (r : List Value) (σ : mxS) (v w : Value) : mxdup2 pc loc (v :: w :: r) σ = if v.category = 1 ∧ w.category = 1 then mxgo pc loc (v :: w :: v :: w :: r) σ else none := rfl
theorem e_pop (pc : Nat) (loc : mxL) (r : List Value) (σ : mxS) (v : Value) : mxpop pc loc (v :: r) σ = if v.category = 1 then mxgo pc loc r σ else none := rfl
theorem e_ci (x : Int32) : (Value.int x).category = 1 := rfl
theorem e_cj (x : Int64) : (Value.long x).category = 2 := rfl
theorem e_cd (x : UInt64) : (Value.double x).category = 2 := rfl
theorem e_cr (x : Nat) : (Value.ref x).category = 1 := rfl
theorem e_c0 : Value.null.category = 1 := rfl
theorem e_gf (ci k : Nat) (pc : Nat) (loc : mxL) (r : List Value) (σ : mxS) (a : Nat) : mxgf ci k pc loc (.ref a :: r) σ = if a < 1000 + σ.2.1 then mxgf2 ci k pc loc r σ (σ.1 a) else none := rfl
theorem e_gf2 (ci cj k : Nat) (pc : Nat) (loc : mxL) (r : List Value) (σ : mxS) (fs : List Value) : mxgf2 ci k pc loc r σ (.inr (cj, fs)) = if cj = ci then mxgf3 pc loc r σ (fs[k]?) else none := rfl
theorem e_gf3 (pc : Nat) (loc : mxL) (r : List Value) (σ : mxS) (v : Value) : mxgf3 pc loc r σ (some v) = mxgo pc loc (v :: r) σ := rfl
theorem e_pf (ci k t : Nat) (pc : Nat) (loc : mxL) (r : List Value) (σ : mxS) (v : Value) (a : Nat) : mxpf ci k t pc loc (v :: .ref a :: r) σ = if 1000 ≤ a ∧ a < 1000 + σ.2.1 ∧ mxfit t v = true then mxpf2 ci k pc loc v a r σ (σ.1 a) else none := rfl
theorem e_pf2 (ci cj k : Nat) (pc : Nat) (loc : mxL) (r : List Value) (σ : mxS) (v : Value) (a : Nat) (fs : List Value) : mxpf2 ci k pc loc v a r σ (.inr (cj, fs)) = if cj = ci ∧ k < fs.length then mxgo pc loc r (mxWr σ a (.inr (ci, fs.set k v))) else none := rfl
theorem e_f0 (x : Int32) : mxfit 0 (.int x) = true := rfl
theorem e_f1 (x : Int32) : mxfit 1 (.int x) = (x == 0 || x == 1) := rfl
theorem e_f2 (a : Nat) : mxfit 2 (.ref a) = true := rfl
theorem e_f20 : mxfit 2 .null = true := rfl
theorem e_len (pc : Nat) (loc : mxL) (r : List Value) (σ : mxS) (a : Nat) : mxlen pc loc (.ref a :: r) σ = if a < 1000 + σ.2.1 then mxlen2 pc loc r σ (σ.1 a) else none := rfl
theorem e_len2 (pc : Nat) (loc : mxL) (r : List Value) (σ : mxS) (t n : Nat) (f) : mxlen2 pc loc r σ (.inl (t, n, f)) = mxgo pc loc (.int (nI n) :: r) σ := rfl
theorem e_al (ok : Nat → Bool) (pc : Nat) (loc : mxL) (r : List Value) (σ : mxS) (i : Int32) (a : Nat) : mxal ok pc loc (.int i :: .ref a :: r) σ = if a < 1000 + σ.2.1 then mxal2 ok pc loc i r σ (σ.1 a) else none := rfl
theorem e_al2 (ok : Nat → Bool) (pc : Nat) (loc : mxL) (r : List Value) (σ : mxS) (i : Int32) (t n : Nat) (f : Nat → Int32) : mxal2 ok pc loc i r σ (.inl (t, n, .inl f)) = if ok t = true then mxal3 pc loc r σ f (mxidx i n) else none := rfl
theorem e_al3 (pc : Nat) (loc : mxL) (r : List Value) (σ : mxS) (f : Nat → Int32) (j : Nat) : mxal3 pc loc r σ f (some j) = mxgo pc loc (.int (f j) :: r) σ := rfl
theorem e_alJ (pc : Nat) (loc : mxL) (r : List Value) (σ : mxS) (i : Int32) (a : Nat) : mxalJ pc loc (.int i :: .ref a :: r) σ = if a < 1000 + σ.2.1 then mxalJ2 pc loc i r σ (σ.1 a) else none := rfl
theorem e_alJ2 (pc : Nat) (loc : mxL) (r : List Value) (σ : mxS) (i : Int32) (t n : Nat) (f : Nat → Int64) : mxalJ2 pc loc i r σ (.inl (t, n, .inr (.inl f))) = if t = 1 then mxalJ3 pc loc r σ f (mxidx i n) else none := rfl
theorem e_alJ3 (pc : Nat) (loc : mxL) (r : List Value) (σ : mxS) (f : Nat → Int64) (j : Nat) : mxalJ3 pc loc r σ f (some j) = mxgo pc loc (.long (f j) :: r) σ := rfl
theorem e_alA (pc : Nat) (loc : mxL) (r : List Value) (σ : mxS) (i : Int32) (a : Nat) : mxalA pc loc (.int i :: .ref a :: r) σ = if a < 1000 + σ.2.1 then mxalA2 pc loc i r σ (σ.1 a) else none := rfl
theorem e_alA2 (pc : Nat) (loc : mxL) (r : List Value) (σ : mxS) (i : Int32) (t n : Nat) (f : Nat → Option Nat) : mxalA2 pc loc i r σ (.inl (t, n, .inr (.inr (.inr (.inr f))))) = if 4 ≤ t ∧ t ≤ 6 then mxalA3 pc loc r σ f (mxidx i n) else none := rfl
theorem e_alA3 (pc : Nat) (loc : mxL) (r : List Value) (σ : mxS) (f : Nat → Option Nat) (j : Nat) : mxalA3 pc loc r σ f (some j) = mxgo pc loc (va_rf (f j) :: r) σ := rfl
theorem e_as (ok : Nat → Bool) (g : Int32 → Int32) (pc : Nat) (loc : mxL) (r : List Value) (σ : mxS) (x i : Int32) (a : Nat) : mxas ok g pc loc (.int x :: .int i :: .ref a :: r) σ = if 1000 ≤ a ∧ a < 1000 + σ.2.1 then mxas2 ok g pc loc x i a r σ (σ.1 a) else none := rfl
theorem e_as2 (ok : Nat → Bool) (g : Int32 → Int32) (pc : Nat) (loc : mxL) (r : List Value) (σ : mxS) (x i : Int32) (a t n : Nat) (f : Nat → Int32) : mxas2 ok g pc loc x i a r σ (.inl (t, n, .inl f)) = if ok t = true then mxas3 pc loc r σ a t n f (g x) (mxidx i n) else none := rfl
theorem e_as3 (pc : Nat) (loc : mxL) (r : List Value) (σ : mxS) (x : Int32) (a t n j : Nat) (f : Nat → Int32) : mxas3 pc loc r σ a t n f x (some j) = mxgo pc loc r (mxWr σ a (.inl (t, n, .inl (va_up f j x)))) := rfl
theorem e_asB (pc : Nat) (loc : mxL) (r : List Value) (σ : mxS) (x i : Int32) (a : Nat) : mxasB pc loc (.int x :: .int i :: .ref a :: r) σ = if 1000 ≤ a ∧ a < 1000 + σ.2.1 then mxasB2 pc loc x i a r σ (σ.1 a) else none := rfl
theorem e_asB2 (pc : Nat) (loc : mxL) (r : List Value) (σ : mxS) (x i : Int32) (a t n : Nat) (f : Nat → Int32) : mxasB2 pc loc x i a r σ (.inl (t, n, .inl f)) = if t = 2 ∨ (t = 3 ∧ (x = 0 ∨ x = 1)) then mxas3 pc loc r σ a t n f (if t = 2 then x.toInt8.toInt32 else x) (mxidx i n) else none := rfl
theorem e_asJ (pc : Nat) (loc : mxL) (r : List Value) (σ : mxS) (x : Int64) (i : Int32) (a : Nat) : mxasJ pc loc (.long x :: .int i :: .ref a :: r) σ = if 1000 ≤ a ∧ a < 1000 + σ.2.1 then mxasJ2 pc loc x i a r σ (σ.1 a) else none := rfl
theorem e_asJ2 (pc : Nat) (loc : mxL) (r : List Value) (σ : mxS) (x : Int64) (i : Int32) (a t n : Nat) (f : Nat → Int64) : mxasJ2 pc loc x i a r σ (.inl (t, n, .inr (.inl f))) = if t = 1 then mxasJ3 pc loc r σ a t n f x (mxidx i n) else none := rfl
theorem e_asJ3 (pc : Nat) (loc : mxL) (r : List Value) (σ : mxS) (x : Int64) (a t n j : Nat) (f : Nat → Int64) : mxasJ3 pc loc r σ a t n f x (some j) = mxgo pc loc r (mxWr σ a (.inl (t, n, .inr (.inl (va_up f j x))))) := rfl
theorem e_asA (pc : Nat) (loc : mxL) (r : List Value) (σ : mxS) (v : Nat) (i : Int32) (a : Nat) : mxasA pc loc (.ref v :: .int i :: .ref a :: r) σ = if 1000 ≤ a ∧ a < 1000 + σ.2.1 then mxasA2 pc loc v i a r σ (σ.1 a) else none := rfl
theorem e_asA2 (pc : Nat) (loc : mxL) (r : List Value) (σ : mxS) (v : Nat) (i : Int32) (a t n : Nat) (f : Nat → Option Nat) : mxasA2 pc loc v i a r σ (.inl (t, n, .inr (.inr (.inr (.inr f))))) = if mxelt σ t v = true then mxasA3 pc loc r σ a t n f v (mxidx i n) else none := rfl
theorem e_asA3 (pc : Nat) (loc : mxL) (r : List Value) (σ : mxS) (v a t n j : Nat) (f : Nat → Option Nat) : mxasA3 pc loc r σ a t n f v (some j) = mxgo pc loc r (mxWr σ a (.inl (t, n, .inr (.inr (.inr (.inr (va_up f j (some v)))))))) := rfl
theorem e_new (ci : Nat) (fs : List Value) (pc : Nat) (loc : mxL) (r : List Value) (σ : mxS) : mxnew ci fs pc loc r σ = mxgo pc loc (.ref (1000 + σ.2.1) :: r) (mxAl σ (.inr (ci, fs)) fs.length) := rfl
theorem e_na (t : Nat) (pc : Nat) (loc : mxL) (r : List Value) (σ : mxS) (n : Int32) : mxna t pc loc (.int n :: r) σ = mxna2 t pc loc r σ (mxidx n 10000) := rfl
theorem e_na2 (t : Nat) (pc : Nat) (loc : mxL) (r : List Value) (σ : mxS) (k : Nat) : mxna2 t pc loc r σ (some k) = mxgo pc loc (.ref (1000 + σ.2.1) :: r) (mxAl σ (.inl (t, k, mxzero t)) k) := rfl
theorem e_cat0 : mxcat [] = 0 := rfl
theorem e_cat1 (v : Value) (l : List Value) : mxcat (v :: l) = v.category + mxcat l := rfl
theorem e_tk0 (acc st : List Value) : mxtk 0 acc st = some (acc, st) := rfl
theorem e_tk1 (v : Value) (acc st : List Value) : mxtk 1 acc (v :: st) = mxtk 0 (v :: acc) st := rfl
theorem e_tk2 (v : Value) (acc st : List Value) : mxtk 2 acc (v :: st) = mxtk 1 (v :: acc) st := rfl
theorem e_tk3 (v : Value) (acc st : List Value) : mxtk 3 acc (v :: st) = mxtk 2 (v :: acc) st := rfl
theorem e_tk4 (v : Value) (acc st : List Value) : mxtk 4 acc (v :: st) = mxtk 3 (v :: acc) st := rfl
theorem e_tk5 (v : Value) (acc st : List Value) : mxtk 5 acc (v :: st) = mxtk 4 (v :: acc) st := rfl
theorem e_tk6 (v : Value) (acc st : List Value) : mxtk 6 acc (v :: st) = mxtk 5 (v :: acc) st := rfl
theorem e_tk7 (v : Value) (acc st : List Value) : mxtk 7 acc (v :: st) = mxtk 6 (v :: acc) st := rfl
theorem e_tk8 (v : Value) (acc st : List Value) : mxtk 8 acc (v :: st) = mxtk 7 (v :: acc) st := rfl
theorem e_cS (y n : Nat) (st : List Value) : mxcS y n st = mxcall2 y (mxtk n [] st) := rfl
theorem e_cS2 (y : Nat) (as r : List Value) : mxcall2 y (some (as, r)) = if mxcat r ≤ 8 then some (.inr (.inr (.inl (y, as, r)))) else none := rfl
theorem e_cI_0 (y : Nat) (st : List Value) : mxcI y 0 st = mxcI2 y (mxtk 1 [] st) := rfl
theorem e_cI_1 (y : Nat) (st : List Value) : mxcI y 1 st = mxcI2 y (mxtk 2 [] st) := rfl
theorem e_cI_2 (y : Nat) (st : List Value) : mxcI y 2 st = mxcI2 y (mxtk 3 [] st) := rfl
theorem e_cI_3 (y : Nat) (st : List Value) : mxcI y 3 st = mxcI2 y (mxtk 4 [] st) := rfl
theorem e_cI_4 (y : Nat) (st : List Value) : mxcI y 4 st = mxcI2 y (mxtk 5 [] st) := rfl
theorem e_cI_5 (y : Nat) (st : List Value) : mxcI y 5 st = mxcI2 y (mxtk 6 [] st) := rfl
theorem e_cI2 (y a : Nat) (as r : List Value) : mxcI2 y (some (.ref a :: as, r)) = if 1000 ≤ a ∧ mxcat r ≤ 8 then some (.inr (.inr (.inl (y, .ref a :: as, r)))) else none := rfl
theorem e_cV_0 (y ci : Nat) (st : List Value) (σ : mxS) : mxcV y 0 ci st σ = mxcV2 y ci σ (mxtk 1 [] st) := rfl
theorem e_cV_1 (y ci : Nat) (st : List Value) (σ : mxS) : mxcV y 1 ci st σ = mxcV2 y ci σ (mxtk 2 [] st) := rfl
theorem e_cV_2 (y ci : Nat) (st : List Value) (σ : mxS) : mxcV y 2 ci st σ = mxcV2 y ci σ (mxtk 3 [] st) := rfl
theorem e_cV_3 (y ci : Nat) (st : List Value) (σ : mxS) : mxcV y 3 ci st σ = mxcV2 y ci σ (mxtk 4 [] st) := rfl
theorem e_cV_4 (y ci : Nat) (st : List Value) (σ : mxS) : mxcV y 4 ci st σ = mxcV2 y ci σ (mxtk 5 [] st) := rfl
theorem e_cV_5 (y ci : Nat) (st : List Value) (σ : mxS) : mxcV y 5 ci st σ = mxcV2 y ci σ (mxtk 6 [] st) := rfl
theorem e_cV_6 (y ci : Nat) (st : List Value) (σ : mxS) : mxcV y 6 ci st σ = mxcV2 y ci σ (mxtk 7 [] st) := rfl
theorem e_cV_7 (y ci : Nat) (st : List Value) (σ : mxS) : mxcV y 7 ci st σ = mxcV2 y ci σ (mxtk 8 [] st) := rfl
theorem e_cV2 (y ci a : Nat) (as r : List Value) (σ : mxS) : mxcV2 y ci σ (some (.ref a :: as, r)) = if a < 1000 + σ.2.1 then mxcV3 y ci a as r (σ.1 a) else none := rfl
theorem e_cV3 (y ci cj a : Nat) (as r fs : List Value) : mxcV3 y ci a as r (.inr (cj, fs)) = if cj = ci then (if mxcat r ≤ 8 then some (.inr (.inr (.inl (y, .ref a :: as, r)))) else none) else none := rfl
theorem e_oi (pc : Nat) (loc : mxL) (r : List Value) (σ : mxS) (a : Nat) : mxoi pc loc (.ref a :: r) σ = if 1000 ≤ a ∧ mxcat r ≤ 8 then mxgo pc loc r σ else none := rfl
theorem e_cp (pc : Nat) (loc : mxL) (r : List Value) (σ : mxS) (n dp sp : Int32) (a b : Nat) : mxcp pc loc (.int n :: .int dp :: .ref b :: .int sp :: .ref a :: r) σ = if 1000 ≤ a ∧ a < 1000 + σ.2.1 ∧ 1000 ≤ b ∧ b < 1000 + σ.2.1 then mxcp2 pc loc n dp sp b r σ (σ.1 a) (σ.1 b) else none := rfl
theorem e_cp2 (pc : Nat) (loc : mxL) (r : List Value) (σ : mxS) (n dp sp : Int32) (b n0 n1 : Nat) (f g : Nat → Int32) : mxcp2 pc loc n dp sp b r σ (.inl (0, n0, .inl f)) (.inl (0, n1, .inl g)) = if ¬ sp < 0 ∧ ¬ dp < 0 ∧ ¬ n < 0 ∧ sp.toNatClampNeg + n.toNatClampNeg ≤ n0 ∧ dp.toNatClampNeg + n.toNatClampNeg ≤ n1 ∧ mxcat r ≤ 8 then mxgo pc loc r (mxWr σ b (.inl (0, n1, .inl (va_cpy f g sp.toNatClampNeg dp.toNatClampNeg n.toNatClampNeg)))) else none := rfl
theorem e_r0 (x : Int32) : mxret 0 [.int x] = some (.inr (.inl (some (.int x)))) := rfl
theorem e_r1 (x : Int32) : mxret 1 [.int x] = if x = 0 ∨ x = 1 then some (.inr (.inl (some (.int x)))) else none := rfl
theorem e_r2 (x : Int32) : mxret 2 [.int x] = if x.toInt8.toInt32 = x then some (.inr (.inl (some (.int x)))) else none := rfl
theorem e_r3 (x : Int32) : mxret 3 [.int x] = if (x.toUInt32 % 65536).toInt32 = x then some (.inr (.inl (some (.int x)))) else none := rfl
theorem e_r4 (x : Int64) : mxret 4 [.long x] = some (.inr (.inl (some (.long x)))) := rfl
theorem e_r5 (x : UInt64) : mxret 5 [.double x] = some (.inr (.inl (some (.double x)))) := rfl
theorem e_r6 (x : Nat) : mxret 6 [.ref x] = some (.inr (.inl (some (.ref x)))) := rfl
theorem e_r60 : mxret 6 [.null] = some (.inr (.inl (some .null))) := rfl
theorem e_r7 : mxret 7 [] = some (.inr (.inl none)) := rfl
theorem e_W1 (σ : mxS) (a : Nat) (e : mxC) : (mxWr σ a e).2.1 = σ.2.1 := rfl
theorem e_W2 (σ : mxS) (a : Nat) (e : mxC) : (mxWr σ a e).2.2 = σ.2.2 := rfl
theorem e_A1 (σ : mxS) (e : mxC) (k : Nat) : (mxAl σ e k).2.1 = σ.2.1 + 1 := rfl
theorem e_A2 (σ : mxS) (e : mxC) (k : Nat) : (mxAl σ e k).2.2 = σ.2.2 + k := rfl
theorem e_Wg (σ : mxS) (a b : Nat) (e : mxC) : (mxWr σ a e).1 b = if b = a then e else σ.1 b := rfl
theorem e_Ag (σ : mxS) (b k : Nat) (e : mxC) : (mxAl σ e k).1 b = if b = 1000 + σ.2.1 then e else σ.1 b := rfl
theorem e_rf0 : va_rf none = .null := rfl
theorem e_rf1 (a : Nat) : va_rf (some a) = .ref a := rfl
theorem e_len0 : ([] : mxL).length = 0 := rfl
theorem e_len1 (a : Option Value) (l : mxL) : (a :: l).length = l.length + 1 := rfl
theorem e_vl0 : ([] : List Value).length = 0 := rfl
theorem e_vl1 (a : Value) (l : List Value) : (a :: l).length = l.length + 1 := rfl
