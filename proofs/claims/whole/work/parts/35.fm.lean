/-! ===== the remainder by the number of towers ===== -/
theorem xor_sg (x y : Int32) (hy : 0 ≤ y) : 0 ≤ x ^^^ y ↔ 0 ≤ x := by
  rw [Int32.le_iff_toInt_le, Int32.le_iff_toInt_le] at *
  simp only [Int32.toInt_zero] at *
  have h1 : ∀ z : Int32, (0 ≤ z.toInt) = (z.toBitVec.msb = false) := by
    intro z
    have e := BitVec.msb_eq_toInt (x := z.toBitVec)
    have e2 : z.toInt = z.toBitVec.toInt := rfl
    rw [e, e2]
    exact propext (by rw [decide_eq_false_iff_not]; omega)
  rw [h1, h1] at *
  rw [Int32.toBitVec_xor, BitVec.msb_xor, hy]
  simp
theorem fm_toInt (x y : Int32) (hy : 0 < y) : (mxFM x y).toInt = x.toInt % y.toInt := by
  have hy' : 0 < y.toInt := by have := Int32.lt_iff_toInt_lt.mp hy; simpa using this
  have hx1 := Int32.le_toInt x
  have hx2 := Int32.toInt_lt x
  have hy2 := Int32.toInt_lt y
  have hd : (x / y).toInt = x.toInt.tdiv y.toInt := by
    rw [Int32.toInt_div]
    have a1 : (x.toInt.tdiv y.toInt).natAbs ≤ x.toInt.natAbs := by rw [Int.natAbs_tdiv]; exact Nat.div_le_self _ _
    by_cases hx : x.toInt.natAbs < 2 ^ 31
    · rw [Int.bmod_eq_of_le] <;> omega
    · have e : x.toInt = - 2 ^ 31 := by omega
      have h2 : x.toInt.tdiv y.toInt ≤ 0 := by
        rw [e, Int.neg_tdiv]
        have := Int.tdiv_nonneg (a := 2 ^ 31) (b := y.toInt) (by decide) (by omega)
        omega
      rw [Int.bmod_eq_of_le] <;> omega
  have hm := Int.tmod_add_mul_tdiv x.toInt y.toInt
  have hb : (x.toInt.tmod y.toInt).natAbs < y.toInt.natAbs := by
    rw [Int.natAbs_tmod]; exact Nat.mod_lt _ (by omega)
  have hsgn : 0 ≤ x.toInt → 0 ≤ x.toInt.tmod y.toInt := fun h => Int.tmod_nonneg _ h
  have hsgn2 : x.toInt ≤ 0 → x.toInt.tmod y.toInt ≤ 0 := fun h => by
    have := Int.tmod_nonneg (a := - x.toInt) y.toInt (by omega)
    rw [Int.neg_tmod] at this
    omega
  have hmul : (x / y * y).toInt = x.toInt.tdiv y.toInt * y.toInt := by
    rw [Int32.toInt_mul, hd, Int.mul_comm]
    rw [Int.bmod_eq_of_le] <;> (rcases Int.le_total 0 x.toInt with h | h <;> (first | have := hsgn h | have := hsgn2 h) <;> omega)
  have hs : (x - x / y * y).toInt = x.toInt.tmod y.toInt := by
    rw [Int32.toInt_sub, hmul]
    have : x.toInt - x.toInt.tdiv y.toInt * y.toInt = x.toInt.tmod y.toInt := by
      rw [Int.mul_comm]; omega
    rw [this, Int.bmod_eq_of_le] <;> omega
  unfold mxFM
  have hxs := xor_sg x y (Int32.le_of_lt hy)
  by_cases h0 : 0 ≤ x
  · rw [if_pos (hxs.mpr h0), hs]
    have : 0 ≤ x.toInt := by have := Int32.le_iff_toInt_le.mp h0; simpa using this
    rw [Int.tmod_eq_emod_of_nonneg this]
  · rw [if_neg (fun z => h0 (hxs.mp z))]
    have hx0 : x.toInt < 0 := by
      have := Int32.not_le.mp h0
      have := Int32.lt_iff_toInt_lt.mp this
      simpa using this
    have hem := Int.emod_emod_of_dvd x.toInt (Int.dvd_refl y.toInt)
    have he1 := Int.emod_nonneg x.toInt (show y.toInt ≠ 0 by omega)
    have he2 := Int.emod_lt_of_pos x.toInt hy'
    have key : x.toInt.tmod y.toInt % y.toInt = x.toInt % y.toInt := by
      conv => rhs; rw [← hm]
      rw [Int.add_mul_emod_self_left]
    have hs2 := hsgn2 (by omega)
    by_cases h1 : x - x / y * y = 0
    · rw [if_pos h1, hs]
      rw [h1] at hs
      have : x.toInt.tmod y.toInt = 0 := by rw [← hs]; rfl
      rw [this] at key ⊢
      simpa using key
    · rw [if_neg h1, Int32.toInt_add, hs]
      have hne : x.toInt.tmod y.toInt ≠ 0 := fun z => h1 (Int32.toInt.inj (by rw [hs, z]; rfl))
      rw [Int.bmod_eq_of_le] <;> try omega
      rw [← key]
      have := Int.add_emod_right (a := x.toInt.tmod y.toInt) (b := y.toInt)
      rw [← this, Int.emod_eq_of_lt] <;> omega
def fmN (x : Int32) (n : Nat) : Nat := (x.toInt % (n : Int)).toNat
theorem fmN_lt (x : Int32) {n : Nat} (h : 0 < n) : fmN x n < n := by
  have h1 := Int.emod_nonneg x.toInt (show (n : Int) ≠ 0 by omega)
  have h2 := Int.emod_lt_of_pos x.toInt (show 0 < (n : Int) by omega)
  unfold fmN
  omega
theorem fm_nI (x : Int32) {n : Nat} (h : 0 < n) (hn : n ≤ 16) : mxFM x (nI n) = nI (fmN x n) := by
  have hy : 0 < nI n := nI_lt (a := 0) h (by omega)
  have hl := fmN_lt x h
  apply Int32.toInt.inj
  rw [fm_toInt x _ hy, nI_toInt (by omega), nI_toInt (by omega)]
  unfold fmN
  have h1 := Int.emod_nonneg x.toInt (show (n : Int) ≠ 0 by omega)
  omega
