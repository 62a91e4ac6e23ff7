/-! ===== made objects ===== -/
/-- a state with made cells after its own -/
def mxgl (σ : mxS) (s : Nat) (l : List mxC) : mxS := (fun a => if 1000 + σ.2.1 ≤ a ∧ a < 1000 + σ.2.1 + l.length then l.getD (a - (1000 + σ.2.1)) (.inr (98, [])) else σ.1 a, σ.2.1 + l.length, σ.2.2 + s)
theorem gl_n (σ : mxS) (s : Nat) (l : List mxC) : (mxgl σ s l).2 = (σ.2.1 + l.length, σ.2.2 + s) := rfl
theorem gl_x (a b : Nat) : 1000 + (a + b) = 1000 + a + b := (Nat.add_assoc ..).symm
theorem gl_1 (σ : mxS) (e : mxC) (k : Nat) : mxAl σ e k = mxgl σ k [e] := by
  refine Prod.ext (funext fun a => ?_) rfl
  show (if a = 1000 + σ.2.1 then e else σ.1 a) = if 1000 + σ.2.1 ≤ a ∧ a < 1000 + σ.2.1 + 1 then [e].getD (a - (1000 + σ.2.1)) (.inr (98, [])) else σ.1 a
  by_cases q : a = 1000 + σ.2.1
  · subst q
    rw [if_pos rfl, if_pos (by omega), Nat.sub_self]
    rfl
  · rw [if_neg q, if_neg (by omega)]
theorem gl_a (σ : mxS) (s : Nat) (l : List mxC) (e : mxC) (k : Nat) : mxAl (mxgl σ s l) e k = mxgl σ (s + k) (l ++ [e]) := by
  refine Prod.ext (funext fun a => ?_) (Prod.ext ?_ ?_)
  · show (if a = 1000 + (σ.2.1 + l.length) then e else if 1000 + σ.2.1 ≤ a ∧ a < 1000 + σ.2.1 + l.length then l.getD (a - (1000 + σ.2.1)) (.inr (98, [])) else σ.1 a) = if 1000 + σ.2.1 ≤ a ∧ a < 1000 + σ.2.1 + (l ++ [e]).length then (l ++ [e]).getD (a - (1000 + σ.2.1)) (.inr (98, [])) else σ.1 a
    rw [List.length_append, List.length_singleton]
    by_cases q : a = 1000 + (σ.2.1 + l.length)
    · subst q
      rw [if_pos rfl, if_pos (by omega), show 1000 + (σ.2.1 + l.length) - (1000 + σ.2.1) = l.length by omega, List.getD_eq_getElem?_getD, List.getElem?_append_right (Nat.le_refl _), Nat.sub_self]
      rfl
    · rw [if_neg q]
      by_cases z : 1000 + σ.2.1 ≤ a ∧ a < 1000 + σ.2.1 + l.length
      · rw [if_pos z, if_pos (by omega), List.getD_eq_getElem?_getD, List.getD_eq_getElem?_getD, List.getElem?_append_left (by omega)]
      · rw [if_neg z, if_neg (by omega)]
  · show σ.2.1 + l.length + 1 = σ.2.1 + (l ++ [e]).length
    rw [List.length_append, List.length_singleton]
    omega
  · show σ.2.2 + s + k = σ.2.2 + (s + k)
    omega
theorem gl_g (σ : mxS) (s : Nat) (l : List mxC) (j : Nat) (h : j < l.length) : (mxgl σ s l).1 (1000 + σ.2.1 + j) = l[j]?.getD (.inr (98, [])) := by
  show (if 1000 + σ.2.1 ≤ 1000 + σ.2.1 + j ∧ 1000 + σ.2.1 + j < 1000 + σ.2.1 + l.length then l.getD (1000 + σ.2.1 + j - (1000 + σ.2.1)) (.inr (98, [])) else σ.1 (1000 + σ.2.1 + j)) = _
  rw [if_pos (by omega), Nat.add_sub_cancel_left, List.getD_eq_getElem?_getD]
theorem gl_g0 (σ : mxS) (s : Nat) (e : mxC) (l : List mxC) : (mxgl σ s (e :: l)).1 (1000 + σ.2.1) = e := gl_g σ s (e :: l) 0 (Nat.zero_lt_succ _)
theorem gl_o (σ : mxS) (s : Nat) (l : List mxC) {a : Nat} (h : a < 1000 + σ.2.1) : (mxgl σ s l).1 a = σ.1 a := if_neg (by omega)
theorem gl_w (σ : mxS) (s : Nat) (l : List mxC) (j : Nat) (e : mxC) (h : j < l.length) : mxWr (mxgl σ s l) (1000 + σ.2.1 + j) e = mxgl σ s (l.set j e) := by
  refine Prod.ext (funext fun a => ?_) (Prod.ext ?_ rfl)
  · show (if a = 1000 + σ.2.1 + j then e else if 1000 + σ.2.1 ≤ a ∧ a < 1000 + σ.2.1 + l.length then l.getD (a - (1000 + σ.2.1)) (.inr (98, [])) else σ.1 a) = if 1000 + σ.2.1 ≤ a ∧ a < 1000 + σ.2.1 + (l.set j e).length then (l.set j e).getD (a - (1000 + σ.2.1)) (.inr (98, [])) else σ.1 a
    rw [List.length_set]
    by_cases q : a = 1000 + σ.2.1 + j
    · subst q
      rw [if_pos rfl, if_pos (by omega), Nat.add_sub_cancel_left, List.getD_eq_getElem?_getD, List.getElem?_set_self h]
      rfl
    · rw [if_neg q]
      split
      · rw [List.getD_eq_getElem?_getD, List.getD_eq_getElem?_getD, List.getElem?_set_ne (by omega)]
      · rfl
  · show σ.2.1 + l.length = σ.2.1 + (l.set j e).length
    rw [List.length_set]
theorem gl_w0 (σ : mxS) (s : Nat) (e e' : mxC) (l : List mxC) : mxWr (mxgl σ s (e :: l)) (1000 + σ.2.1) e' = mxgl σ s (e' :: l) := gl_w σ s (e :: l) 0 e' (Nat.zero_lt_succ _)
theorem gl_l0 (a : Nat) : (1000 ≤ 1000 + a) = True := eq_true (by omega)
theorem gl_l1 (a j : Nat) : (1000 ≤ 1000 + a + j) = True := eq_true (by omega)
theorem gl_l2 (a n : Nat) : (1000 + a < 1000 + a + n) = (0 < n) := by
  refine propext ⟨fun h => by omega, fun h => by omega⟩
theorem gl_l3 (a j n : Nat) : (1000 + a + j < 1000 + a + n) = (j < n) := by
  refine propext ⟨fun h => by omega, fun h => by omega⟩
theorem ix_16 : mxidx (nI 16) 10000 = some 16 := by decide
theorem ix_8 : mxidx (nI 8) 10000 = some 8 := by decide
theorem ix_17 : mxidx (nI 17) 10000 = some 17 := by decide
theorem ix_800 : mxidx (nI 800) 10000 = some 800 := by decide
theorem ix_400 : mxidx (nI 400) 10000 = some 400 := by decide
def grW (σ : mxS) (n s : Nat) : mxS := (σ.1, σ.2.1 + n, σ.2.2 + s)
def fz : Nat → Int32 := fun _ => 0
def mpL (B : Nat) : List mxC := [.inr (8, [.int 0, .int 0, .ref (B + 1), .ref (B + 2), .ref (B + 3), .int 0, .int 0, .ref (B + 4), .ref (B + 5), .ref (B + 6), .ref (B + 7), .ref (B + 8), .ref (B + 9), .ref (B + 10), .int 0, .ref (B + 11), .int 0]), .inl (0, 16, mxzero 0), .inl (0, 8, mxzero 0), .inl (0, 8, mxzero 0), .inl (0, 16, mxzero 0), .inl (0, 16, mxzero 0), .inl (3, 17, mxzero 3), .inl (0, 17, mxzero 0), .inl (0, 17, mxzero 0), .inl (0, 17, mxzero 0), .inl (0, 800, mxzero 0), .inl (0, 400, mxzero 0)]
theorem mp_eq (σ : mxS) (s : Nat) : mxgl σ s (mpL (1000 + σ.2.1)) = rpW (grW σ 12 s) (1000 + σ.2.1) (nI 0) (nI 0) (nI 0) (nI 0) (nI 0) (nI 0) fz fz fz fz fz fz fz fz fz fz fz := by
  refine Prod.ext (funext fun a => ?_) rfl
  show (if 1000 + σ.2.1 ≤ a ∧ a < 1000 + σ.2.1 + 12 then (mpL (1000 + σ.2.1)).getD (a - (1000 + σ.2.1)) (.inr (98, [])) else σ.1 a) = if 1000 + σ.2.1 ≤ a ∧ a < 1000 + σ.2.1 + 12 then rpG (1000 + σ.2.1) (nI 0) (nI 0) (nI 0) (nI 0) (nI 0) (nI 0) fz fz fz fz fz fz fz fz fz fz fz (a - (1000 + σ.2.1)) else σ.1 a
  split
  · rename_i h
    obtain ⟨j, hj, rfl⟩ : ∃ j, j < 12 ∧ a = 1000 + σ.2.1 + j := ⟨a - (1000 + σ.2.1), by omega, by omega⟩
    rw [Nat.add_sub_cancel_left]
    rcases lt12 hj with rfl | rfl | rfl | rfl | rfl | rfl | rfl | rfl | rfl | rfl | rfl | rfl <;> rfl
  · rfl
theorem mp_init {d : Nat} {σ : mxS} {s : Nat} {Q : Option Value ⊕ Nat → mxS → Prop} : WP d 1280 0 [some (.ref (1000 + σ.2.1))] [] (mxgl σ s [.inr (8, [.int 0, .int 0, .null, .null, .null, .int 0, .int 0, .null, .null, .null, .null, .null, .null, .null, .int 0, .null, .int 0])]) Q = Q (.inl none) (rpW (grW σ 12 (s + 1332)) (1000 + σ.2.1) (nI 0) (nI 0) (nI 0) (nI 0) (nI 0) (nI 0) fz fz fz fz fz fz fz fz fz fz fz) := by
  rw [← mp_eq]
  simp only [WP_eq, e_go, e_none, e_ite, e_thr0, e_ret, e_thr, e_call, e_Kv, e_Kn, e_Kx, e_K2, e_K20, e_at0, e_s1_0, e_s2_0, e_at1, e_s1_1, e_s2_1, e_at2, e_s1_2, e_s2_2, e_at3, e_s1_3, e_s2_3, e_at4, e_s1_4, e_s2_4, e_at5, e_s1_5, e_s2_5, e_at6, e_s1_6, e_s2_6, e_at7, e_s1_7, e_s2_7, e_at8, e_s1_8, e_s2_8, e_at9, e_s1_9, e_s2_9, e_at10, e_s1_10, e_s2_10, e_at11, e_s1_11, e_s2_11, e_at12, e_s1_12, e_s2_12, e_at13, e_s1_13, e_s2_13, e_kn, e_ki, e_kj, e_kd, e_kr, e_k0, e_lI, e_lJ, e_lD, e_lA, e_lA0, e_sI, e_sJ, e_sD, e_sA, e_sA0, e_inc, e_I2, e_I2z, e_I1, e_I2J, e_J2I, e_I2D, e_J2, e_lcmp, e_dcmp, e_ddiv, e_ifeq, e_iceq, e_ifne, e_icne, e_iflt, e_iclt, e_ifge, e_icge, e_ifgt, e_icgt, e_ifle, e_icle, e_ca, e_ca2, e_en, e_en0, e_sw, e_lk0, e_lk, e_dup, e_dup2, e_pop, e_ci, e_cj, e_cd, e_cr, e_c0, e_gf, e_gf2, e_gf3, e_pf, e_pf2, e_f0, e_f1, e_f2, e_f20, e_len, e_len2, e_al, e_al2, e_al3, e_alJ, e_alJ2, e_alJ3, e_alA, e_alA2, e_alA3, e_as, e_as2, e_as3, e_asB, e_asB2, e_asJ, e_asJ2, e_asJ3, e_asA, e_asA2, e_asA3, e_new, e_na, e_na2, e_cat0, e_cat1, e_tk0, e_tk1, e_tk2, e_tk3, e_tk4, e_tk5, e_tk6, e_tk7, e_tk8, e_cS, e_cS2, e_cI_0, e_cI_1, e_cI_2, e_cI_3, e_cI_4, e_cI_5, e_cI2, e_cV_0, e_cV_1, e_cV_2, e_cV_3, e_cV_4, e_cV_5, e_cV_6, e_cV_7, e_cV2, e_cV3, e_oi, e_cp, e_r0, e_r1, e_r2, e_r3, e_r4, e_r5, e_r6, e_r60, e_r7, e_W1, e_W2, e_A1, e_A2, e_Wg, e_Ag, e_rf0, e_rf1, e_len0, e_len1, e_vl0, e_vl1, z00, z10, z11, ↓reduceIte, List.getElem?_cons_zero, List.getElem?_cons_succ, List.set_cons_zero, List.set_cons_succ, and_true, true_and, and_self, or_true, true_or, or_false, false_or, Nat.reduceAdd, Nat.reduceSub, Nat.reduceLT, Nat.reduceLeDiff, Nat.reduceEqDiff, Nat.reduceBEq, beq_self_eq_true, Bool.or_false, Bool.false_or, Bool.or_true, Bool.true_or, not_true, not_false_eq_true, reduceCtorEq, s1280_0, s1280_1, s1280_4, s1280_5, s1280_7, s1280_9, s1280_12, s1280_13, s1280_15, s1280_17, s1280_20, s1280_21, s1280_23, s1280_25, s1280_28, s1280_29, s1280_31, s1280_33, s1280_36, s1280_37, s1280_39, s1280_41, s1280_44, s1280_45, s1280_47, s1280_49, s1280_52, s1280_53, s1280_55, s1280_57, s1280_60, s1280_61, s1280_63, s1280_65, s1280_68, s1280_69, s1280_71, s1280_73, s1280_76, s1280_77, s1280_80, s1280_82, s1280_85, s1280_86, s1280_89, s1280_91, s1280_94, gl_n, gl_x, gl_a, gl_g0, gl_w0, gl_l0, gl_l1, gl_l2, gl_l3, List.length_cons, List.length_nil, List.cons_append, List.nil_append, ix_16, ix_8, ix_17, ix_800, ix_400, Nat.add_assoc s]
  rfl

