/-! ===== what the start gives: all that stands fast ===== -/
theorem rng {f : Nat → Bool} {n i : Nat} (h : (List.range n).all f = true) (hi : i < n) : f i = true := List.all_eq_true.mp h i (List.mem_range.mpr hi)
theorem sg_of {s : State} {b : Nat} (hts : ∀ w ∈ lw_tbl, w.before #[Value.ref b] s = true) (hg : (Cond.and given_1 narrow_1).before #[Value.ref b] s = true) {A : Nat → Prop} (hA : ∀ a : Nat, a < s.heap.size → ¬ A a) {tm : Term} {p : Nat} {l : List Int32} (h : ckS tm p l = true) (hl : l.length < 2 ^ 31) : ∃ a t, tm.eval #[Value.ref b] s none [] s = some (.ref a) ∧ va_O "java/lang/String" a A s s.heap ∧ va_OF "java/lang/String" "value" "[B" (.ref t) a A s s.heap ∧ va_OF "java/lang/String" "coder" "B" (.int 0) a A s s.heap ∧ va_T .byte t l.length (fun j => .int (l.getD j 0)) A s s.heap := by
  simp only [ckS, Bool.and_eq_true, decide_eq_true_eq] at h
  obtain ⟨⟨⟨⟨h1, h2⟩, h3⟩, h4⟩, h5⟩ := h
  obtain ⟨a, c, cell, k, q1, -⟩ := Cond.exactly_spec (nr_of hg h1)
  obtain ⟨t, ht, hT⟩ := va_Tof (f := fun j => .int (l.getD j 0)) (A := A) hl (nr_of hg h3) (va_eqt (nr_of hg h4)) (fun j hj => va_eqt (nr_of hg (of_decide_eq_true (rng h5 hj)))) hA
  exact ⟨a, t, q1, va_Oof (nr_of hg h1) q1 hA, vk_OFof q1 ht hA, vk_OFof q1 (va_eqt (nr_of hg h2)) hA, hT⟩
theorem kd_of {s : State} {b : Nat} (hts : ∀ w ∈ lw_tbl, w.before #[Value.ref b] s = true) (hg : (Cond.and given_1 narrow_1).before #[Value.ref b] s = true) {A : Nat → Prop} (hA : ∀ a : Nat, a < s.heap.size → ¬ A a) (i : Nat) : ∃ a, i < 47 → (kS i).eval #[Value.ref b] s none [] s = some (.ref a) ∧ va_O "RoofPigeons$Kind" a A s s.heap ∧ va_OF "RoofPigeons$Kind" "takes" "I" (.int (nI (mxtakes.getD i 0))) a A s s.heap ∧ va_OF "java/lang/Enum" "ordinal" "I" (.int (nI i)) a A s s.heap ∧ s.fieldOf? a "java/lang/Enum" "ordinal" "I" = some (.int (nI i)) ∧ ∀ t, (tS i).eval #[Value.ref b] s none [] s = some (.ref t) → va_OF "RoofPigeons$Kind" "text" "Ljava/lang/String;" (.ref t) a A s s.heap := by
  by_cases hi : i < 47
  · have h := rng ckK_ok hi
    simp only [ckK, Bool.and_eq_true, decide_eq_true_eq] at h
    obtain ⟨⟨⟨h1, h2⟩, h3⟩, h4⟩ := h
    obtain ⟨a, c, cell, k, q1, -⟩ := Cond.exactly_spec (nr_of hg h1)
    have ho := va_eqt (nr_of hg h2)
    refine ⟨a, fun _ => ⟨q1, va_Oof (nr_of hg h1) q1 hA, vk_OFof q1 (va_eqt (nr_of hg h4)) hA, vk_OFof q1 ho hA, ?_, fun t ht => vk_OFof q1 (va_eqv (nr_of hg h3) ht) hA⟩⟩
    rw [← va_fe q1]
    exact ho
  · exact ⟨0, fun h => absurd h hi⟩
def uP : List (List Nat) := [[1211, 1213], [1109, 1111, 1113, 1115, 1117, 1119], [1149, 1151, 1153, 1155, 1157, 1159, 1161, 1163, 1165, 1167, 1169], [2019, 2021, 2023, 2025, 2027, 2029, 2031, 2033, 2035, 2037, 2039, 2041, 2043, 2045, 2047], [1186, 1188, 1190, 1192, 1194, 1196, 1198, 1200], [1046, 1048], [1071, 1073, 1075, 1077], [2090, 2092, 2094, 2096, 2098, 2100], [5204, 5206, 5208, 5210, 5212, 5214, 5216, 5218, 5220, 5222, 5224, 5226, 5228, 5230, 5232, 5234, 5236], [6014, 6016, 6018, 6020, 6022], [6043, 6045, 6047, 6049, 6051, 6053, 6055, 6057, 6059, 6061, 6063, 6065, 6067, 6069, 6071, 6073]]
def iP : List Nat := [1204, 1090, 1083, 1217, 1053, 1037, 1055, 1029, 5158, 6000, 5152]
def msR : List Nat := [4087, 4134, 5019, 5031, 5039, 5047, 5143, 4162, 4222, 5059]
def ckU (k : Nat) : Bool := match mxcl[k]? with
  | some q => decide (mxWd (iP.getD k 0) = some (.instantiable q.1 q.2.2)) && (List.range (u_ws q.1 q.2.1 q.2.2).length).all (fun j => match (u_ws q.1 q.2.1 q.2.2)[j]? with
    | some w => decide (mxWd ((uP.getD k []).getD j 0) = some w)
    | none => false)
  | none => false
theorem ckU_ok : (List.range 11).all ckU = true := by decide +kernel
def ckR (j : Nat) : Bool := match mxMS[j]? with
  | some q => decide (mxWd (msR.getD j 0) = some (.stringRef q.1 q.2.1 q.2.2))
  | none => false
theorem ckR_ok : (List.range 10).all ckR = true := by decide +kernel
theorem kn_of {s : State} {b : Nat} (hts : ∀ w ∈ lw_tbl, w.before #[Value.ref b] s = true) (hg : (Cond.and given_1 narrow_1).before #[Value.ref b] s = true) (k : Nat) : ∃ p : ClassId × (Nat → Nat), ∀ q, mxcl[k]? = some q → u_Kn s q.1 q.2.1 q.2.2 p.1 p.2 := by
  by_cases hk : k < 11
  · have h := rng ckU_ok hk
    unfold ckU at h
    cases hq : mxcl[k]? with
    | none => rw [hq] at h; cases h
    | some q =>
      rw [hq] at h
      simp only [Bool.and_eq_true, decide_eq_true_eq] at h
      obtain ⟨h1, h2⟩ := h
      obtain ⟨cC, iS, h3⟩ := u_known (C := q.1) (T := q.2.1) (N := q.2.2) (n := q.2.2) hts (fun w hw => by
        obtain ⟨j, hj⟩ := List.mem_iff_getElem?.mp hw
        have hl : j < (u_ws q.1 q.2.1 q.2.2).length := (List.getElem?_eq_some_iff.mp hj).1
        have h4 := rng h2 hl
        rw [hj] at h4
        exact mxWd_mem (of_decide_eq_true h4)) (hts _ (mxWd_mem h1))
      exact ⟨(cC, iS), fun q' hq' => by cases hq'; exact h3⟩
  · refine ⟨(default, fun _ => 0), fun q hq => ?_⟩
    have := (List.getElem?_eq_some_iff.mp hq).1
    exact absurd (show k < 11 from this) hk
theorem ar_p {s : State} {b : Nat} (hts : ∀ w ∈ lw_tbl, w.before #[Value.ref b] s = true) (hg : (Cond.and given_1 narrow_1).before #[Value.ref b] s = true) {ty : FieldType} (hn : ∀ C, ty ≠ .object C) (h : Cond.arrayClass ty ∈ lw_tbl) : ∃ c, ArrOfT s c ty ∧ va_RA s c ty := by
  obtain ⟨c, k, comp, h1, h2, h3⟩ := Cond.arrayClass_spec (hts _ h)
  refine ⟨c, fun n z => ⟨(fun k h => by cases h), k, h2, comp, h3⟩, ?_⟩
  unfold va_RA
  split
  · rename_i C
    exact absurd rfl (hn C)
  · exact h1
theorem ar_o {s : State} {b : Nat} (hts : ∀ w ∈ lw_tbl, w.before #[Value.ref b] s = true) (hg : (Cond.and given_1 narrow_1).before #[Value.ref b] s = true) {C : String} (h : Cond.arrayOver (.object C) ∈ lw_tbl) : ∃ c, ArrOfT s c (.object C) ∧ va_RA s c (.object C) := by
  obtain ⟨comp, c, k, h1, h2, h3, h4, h5⟩ := Cond.arrayOver_spec (hts _ h)
  exact ⟨c, fun n z => ⟨(fun k h => by cases h), k, h3, comp, h4⟩, k, comp, h3, h4, h1, h5⟩
/-- where the constants lie -/
def adr (kd tx wd tv wv : Nat → Nat) (sg sv zm za zw b : Nat) (a : Nat) : Nat := if a < 47 then kd a else if a < 97 then tx (a - 50) else if a < 127 then wd (a - 100) else if a = 130 then sg else if a < 247 then tv (a - 200) else if a < 277 then wv (a - 250) else if a = 280 then sv else if a = 300 then zm else if a = 301 then za else if a = 302 then zw else b
theorem ad_k {kd tx wd tv wv : Nat → Nat} {sg sv zm za zw b : Nat} {i : Nat} (h : i < 47) : adr kd tx wd tv wv sg sv zm za zw b i = kd i := if_pos h
theorem ad_t {kd tx wd tv wv : Nat → Nat} {sg sv zm za zw b : Nat} {i : Nat} (h : i < 47) : adr kd tx wd tv wv sg sv zm za zw b (50 + i) = tx i := by
  unfold adr
  rw [if_neg (by omega), if_pos (by omega), Nat.add_sub_cancel_left]
theorem ad_w {kd tx wd tv wv : Nat → Nat} {sg sv zm za zw b : Nat} {i : Nat} (h : i < 27) : adr kd tx wd tv wv sg sv zm za zw b (100 + i) = wd i := by
  unfold adr
  rw [if_neg (by omega), if_neg (by omega), if_pos (by omega), Nat.add_sub_cancel_left]
theorem ad_tv {kd tx wd tv wv : Nat → Nat} {sg sv zm za zw b : Nat} {i : Nat} (h : i < 47) : adr kd tx wd tv wv sg sv zm za zw b (200 + i) = tv i := by
  unfold adr
  rw [if_neg (by omega), if_neg (by omega), if_neg (by omega), if_neg (by omega), if_pos (by omega), Nat.add_sub_cancel_left]
theorem ad_wv {kd tx wd tv wv : Nat → Nat} {sg sv zm za zw b : Nat} {i : Nat} (h : i < 27) : adr kd tx wd tv wv sg sv zm za zw b (250 + i) = wv i := by
  unfold adr
  rw [if_neg (by omega), if_neg (by omega), if_neg (by omega), if_neg (by omega), if_neg (by omega), if_pos (by omega), Nat.add_sub_cancel_left]
