/-! ===== the reference reads: the beginning ===== -/
/-- before reading -/
def rtC (τ : mxS) (M tp L c L0 : Nat) (tb xs kf ff nf ro me : Nat → Int32) (m0 m3 : Value) (m9 m10 : Int32) (m11 : Value) (m12 : Nat) (m13 m14 m15 : Value) : Prop := τ.1 M = .inr (10, [m0, .ref tp, .int (nI L), m3, .ref c, .ref (c + 1), .ref (c + 2), .ref (c + 3), .ref (c + 4), .int m9, .int m10, m11, .ref m12, m13, m14, m15]) ∧ (τ.1 c = .inl (0, 401, .inl kf) ∧ τ.1 (c + 1) = .inl (0, 401, .inl ff) ∧ τ.1 (c + 2) = .inl (0, 401, .inl nf) ∧ τ.1 (c + 3) = .inl (0, 401, .inl ro) ∧ τ.1 (c + 4) = .inl (0, 401, .inl me)) ∧ τ.1 tp = .inl (0, 2000, .inl tb) ∧ ((1000 ≤ M ∧ M < 1000 + τ.2.1) ∧ tp < 1000 + τ.2.1 ∧ 1000 ≤ c ∧ c + 5 ≤ 1000 + τ.2.1) ∧ (¬ (c ≤ M ∧ M < c + 5) ∧ ¬ (c ≤ tp ∧ tp < c + 5) ∧ tp ≠ M) ∧ L ≤ 2000 ∧ (∀ k, k < L → ∃ n, n < 256 ∧ tb k = nI n) ∧ (∀ a, a < 1000 → τ.1 a = mxkon L0 xs a)
/-- the state with a new plan -/
def rnT (τ : mxS) (M : Nat) (fs : List Value) : mxS := mxWr (rpW (grW τ 12 1349) (1000 + τ.2.1) (nI 0) (nI 0) (nI 0) (nI 0) (nI 0) (nI 0) fz fz fz fz fz fz fz fz fz fz fz) M (.inr (10, fs))
theorem rnT_o (τ : mxS) (M : Nat) (fs : List Value) {a : Nat} (h : a < 1000 + τ.2.1) (h2 : a ≠ M) : (rnT τ M fs).1 a = τ.1 a := (va_up_ne _ _ h2).trans (rp_o (grW τ 12 1349) (1000 + τ.2.1) (nI 0) (nI 0) (nI 0) (nI 0) (nI 0) (nI 0) fz fz fz fz fz fz fz fz fz fz fz (by omega))
theorem rnT_n (τ : mxS) (M : Nat) (fs : List Value) : (rnT τ M fs).2 = (τ.2.1 + 12, τ.2.2 + 1349) := rfl
theorem rnT_M (τ : mxS) (M : Nat) (fs : List Value) : (rnT τ M fs).1 M = .inr (10, fs) := va_up_self _ _ _
theorem rs_C {τ : mxS} {M tp L c L0 : Nat} {tb xs kf ff nf ro me : Nat → Int32} {m0 m3 : Value} {m9 m10 : Int32} {m11 : Value} {m12 : Nat} {m13 m14 m15 : Value} (H : rtC τ M tp L c L0 tb xs kf ff nf ro me m0 m3 m9 m10 m11 m12 m13 m14 m15) : mcC (rnT τ M [m0, .ref tp, .int (nI L), m3, .ref c, .ref (c + 1), .ref (c + 2), .ref (c + 3), .ref (c + 4), .int m9, .int m10, m11, .ref (1000 + τ.2.1), m13, m14, m15]) M tp L c L0 tb xs := by
  obtain ⟨hM, ⟨q0, q1, q2, q3, q4⟩, hT, ⟨uM, uT, hc1, hc2⟩, ⟨oM, oT, oTM⟩, hL, hB, hK⟩ := id H
  refine ⟨⟨_, _, _, rnT_M ..⟩, (rnT_o τ M _ uT oTM).trans hT, ⟨⟨uM.1, by show M < 1000 + (τ.2.1 + 12); omega⟩, by show tp < 1000 + (τ.2.1 + 12); omega, hc1, by show c + 5 ≤ 1000 + (τ.2.1 + 12); omega⟩, ⟨oM, oT⟩, hL, hB, fun a ha => (rnT_o τ M _ (by omega) (by omega)).trans (hK a ha)⟩
theorem rs_of {τ : mxS} {M tp L c L0 : Nat} {tb xs kf ff nf ro me : Nat → Int32} {m0 m3 : Value} {m9 m10 : Int32} {m11 : Value} {m12 : Nat} {m13 m14 m15 : Value} (H : rtC τ M tp L c L0 tb xs kf ff nf ro me m0 m3 m9 m10 m11 m12 m13 m14 m15) : mcW (rnT τ M [m0, .ref tp, .int (nI L), m3, .ref c, .ref (c + 1), .ref (c + 2), .ref (c + 3), .ref (c + 4), .int m9, .int m10, m11, .ref (1000 + τ.2.1), m13, m14, m15]) c kf ff nf ro me = rnT τ M [m0, .ref tp, .int (nI L), m3, .ref c, .ref (c + 1), .ref (c + 2), .ref (c + 3), .ref (c + 4), .int m9, .int m10, m11, .ref (1000 + τ.2.1), m13, m14, m15] := by
  obtain ⟨hM, ⟨q0, q1, q2, q3, q4⟩, hT, ⟨uM, uT, hc1, hc2⟩, ⟨oM, oT, oTM⟩, hL, hB, hK⟩ := id H
  exact mc_of _ c kf ff nf ro me ((rnT_o τ M _ (by omega) (by omega)).trans q0) ((rnT_o τ M _ (by omega) (by omega)).trans q1) ((rnT_o τ M _ (by omega) (by omega)).trans q2) ((rnT_o τ M _ (by omega) (by omega)).trans q3) ((rnT_o τ M _ (by omega) (by omega)).trans q4)
def rsR (ro me : Nat → Int32) : MR := ((0, 0, 0), (0, 0, 0), (0, 0, 0), (ro, me, fz, fz), (fz, fz, fz, fz), (fz, fz, fz), (fz, fz))
def rsS (τ : mxS) (c : Nat) (kf ff nf ro me : Nat → Int32) : mxS := mcW (grW τ 12 1349) c kf ff nf ro me
theorem rs_eq {τ : mxS} {M tp L c L0 : Nat} {tb xs kf ff nf ro me : Nat → Int32} {m0 m3 : Value} {m9 m10 : Int32} {m11 : Value} {m12 : Nat} {m13 m14 m15 : Value} (H : rtC τ M tp L c L0 tb xs kf ff nf ro me m0 m3 m9 m10 m11 m12 m13 m14 m15) (kf' ff' nf' ro' me' : Nat → Int32) : mxWr (mcW (rnT τ M [m0, .ref tp, .int (nI L), m3, .ref c, .ref (c + 1), .ref (c + 2), .ref (c + 3), .ref (c + 4), .int m9, .int m10, m11, .ref (1000 + τ.2.1), m13, m14, m15]) c kf' ff' nf' ro' me') M (.inr (10, [m0, .ref tp, .int (nI L), m3, .ref c, .ref (c + 1), .ref (c + 2), .ref (c + 3), .ref (c + 4), .int (nI 0), .int (nI 0), m11, .ref (1000 + τ.2.1), m13, m14, m15])) = mdW (rsS τ c kf' ff' nf' ro' me') m0 (.ref tp) (.int (nI L)) m3 m11 m13 m14 m15 M c (c + 1) (c + 2) (c + 3) (c + 4) (1000 + τ.2.1) (rsR ro' me') := by
  obtain ⟨hM, ⟨q0, q1, q2, q3, q4⟩, hT, ⟨uM, uT, hc1, hc2⟩, ⟨oM, oT, oTM⟩, hL, hB, hK⟩ := id H
  refine Prod.ext (funext fun a => ?_) rfl
  by_cases p1 : a = M
  · subst p1
    refine (va_up_self _ _ _).trans ?_
    exact ((rp_o _ _ _ _ _ _ _ _ _ _ _ _ _ _ _ _ _ _ _ (by omega)).trans (mb_M _ _ _ _ _ _ _)).symm
  · refine (va_up_ne _ _ p1).trans ?_
    by_cases p2 : c ≤ a ∧ a < c + 5
    · refine Eq.trans ?_ (rp_o _ _ _ _ _ _ _ _ _ _ _ _ _ _ _ _ _ _ _ (by omega)).symm
      obtain ⟨j, hj, rfl⟩ : ∃ j, j < 5 ∧ a = c + j := ⟨a - c, by omega, by omega⟩
      by_cases j4 : j = 4
      · subst j4
        exact (mc_g4 ..).trans (mb_t _ _ _ _ (by omega)).symm
      · by_cases j3 : j = 3
        · subst j3
          exact (mc_g3 ..).trans (mb_r _ _ _ _ (by omega) (by omega)).symm
        · refine Eq.trans ?_ (mb_o _ _ _ _ p1 (by omega) (by omega)).symm
          show (mcW _ c kf' ff' nf' ro' me').1 (c + j) = (mcW _ c kf' ff' nf' ro' me').1 (c + j)
          obtain h | h | h : j = 0 ∨ j = 1 ∨ j = 2 := by omega
          · subst h; exact (mc_g0 ..).trans (mc_g0 ..).symm
          · subst h; exact (mc_g1 ..).trans (mc_g1 ..).symm
          · subst h; exact (mc_g2 ..).trans (mc_g2 ..).symm
    · refine (mc_o _ _ _ _ _ _ _ p2).trans ((va_up_ne _ _ p1).trans ?_)
      by_cases p3 : 1000 + τ.2.1 ≤ a ∧ a < 1000 + τ.2.1 + 12
      · show (if 1000 + τ.2.1 ≤ a ∧ a < 1000 + τ.2.1 + 12 then _ else _) = (if 1000 + τ.2.1 ≤ a ∧ a < 1000 + τ.2.1 + 12 then _ else _)
        rw [if_pos p3, if_pos p3]
        rfl
      · refine (rp_o _ _ _ _ _ _ _ _ _ _ _ _ _ _ _ _ _ _ _ p3).trans (Eq.symm ((rp_o _ _ _ _ _ _ _ _ _ _ _ _ _ _ _ _ _ _ _ p3).trans ((mb_o _ _ _ _ p1 (by omega) (by omega)).trans (mc_o _ _ _ _ _ _ _ p2))))
theorem r_start {d N : Nat} {τ : mxS} {M tp L c L0 : Nat} {tb xs kf ff nf ro me : Nat → Int32} {m0 m3 : Value} {m9 m10 : Int32} {m11 : Value} {m12 : Nat} {m13 m14 m15 : Value} (H : rtC τ M tp L c L0 tb xs kf ff nf ro me m0 m3 m9 m10 m11 m12 m13 m14 m15) (hd : 8 ≤ d) (hN : ntT (bM tb L) L = N) {Q : Option Value ⊕ Nat → mxS → Prop} {RR : Prop} (e : WP d 1581 25 [some (.ref M), none, none] [] (mdW (rsS τ c (kfT (bM tb L) L (N + 1) kf) (saT (bM tb L) L (N + 1) ff) (nfT (bM tb L) L (N + 1) nf) (zeT (N + 1) ro) (zeT (N + 1) me)) m0 (.ref tp) (.int (nI L)) m3 m11 m13 m14 m15 M c (c + 1) (c + 2) (c + 3) (c + 4) (1000 + τ.2.1) (rsR (zeT (N + 1) ro) (zeT (N + 1) me))) Q = RR) : WP d 1581 0 [some (.ref M), none, none] [] τ Q = RR := by
  have hd1 : 1 ≤ d := by omega
  have ec := fun (Q : Option Value ⊕ Nat → mxS → Prop) => r_cut (d := d - 1) (kf := kf) (ff := ff) (nf := nf) (ro := ro) (me := me) (Q := Q) (rs_C H) (by omega) hN
  rw [rs_of H] at ec
  rw [← rs_eq H] at e
  have gM : ∀ kf ff nf ro me, (mcW (rnT τ M [m0, .ref tp, .int (nI L), m3, .ref c, .ref (c + 1), .ref (c + 2), .ref (c + 3), .ref (c + 4), .int m9, .int m10, m11, .ref (1000 + τ.2.1), m13, m14, m15]) c kf ff nf ro me).1 M = .inr (10, [m0, .ref tp, .int (nI L), m3, .ref c, .ref (c + 1), .ref (c + 2), .ref (c + 3), .ref (c + 4), .int m9, .int m10, m11, .ref (1000 + τ.2.1), m13, m14, m15]) := fun kf ff nf ro me => (mc_o _ _ _ _ _ _ _ H.2.2.2.2.1.1).trans (rnT_M ..)
  obtain ⟨hM, ⟨q0, q1, q2, q3, q4⟩, hT, ⟨uM, uT, hc1, hc2⟩, ⟨oM, oT, oTM⟩, hL, hB, hK⟩ := id H
  have uM2 : M < 1000 + τ.2.1 + 12 := by omega
  have r1 : ∀ fs fs' : List Value, mxWr (rnT τ M fs) M (.inr (10, fs')) = rnT τ M fs' := fun fs fs' => mxWr_same _ _ _ _
  have gp : (rpW (grW τ 12 1349) (1000 + τ.2.1) (nI 0) (nI 0) (nI 0) (nI 0) (nI 0) (nI 0) fz fz fz fz fz fz fz fz fz fz fz).1 M = .inr (10, [m0, .ref tp, .int (nI L), m3, .ref c, .ref (c + 1), .ref (c + 2), .ref (c + 3), .ref (c + 4), .int m9, .int m10, m11, .ref m12, m13, m14, m15]) := (rp_o _ _ _ _ _ _ _ _ _ _ _ _ _ _ _ _ _ _ _ (by omega)).trans hM
  have gn : (grW τ 12 1349).2 = (τ.2.1 + 12, τ.2.2 + 1349) := rfl
  have gw : ∀ fs, mxWr (rpW (grW τ 12 1349) (1000 + τ.2.1) (nI 0) (nI 0) (nI 0) (nI 0) (nI 0) (nI 0) fz fz fz fz fz fz fz fz fz fz fz) M (.inr (10, fs)) = rnT τ M fs := fun fs => rfl
  simp only [WP_eq, e_go, e_none, e_ite, e_thr0, e_ret, e_thr, e_call, e_Kv, e_Kn, e_Kx, e_K2, e_K20, e_at0, e_s1_0, e_s2_0, e_at1, e_s1_1, e_s2_1, e_at2, e_s1_2, e_s2_2, e_at3, e_s1_3, e_s2_3, e_at4, e_s1_4, e_s2_4, e_at5, e_s1_5, e_s2_5, e_at6, e_s1_6, e_s2_6, e_at7, e_s1_7, e_s2_7, e_at8, e_s1_8, e_s2_8, e_at9, e_s1_9, e_s2_9, e_at10, e_s1_10, e_s2_10, e_at11, e_s1_11, e_s2_11, e_at12, e_s1_12, e_s2_12, e_at13, e_s1_13, e_s2_13, e_kn, e_ki, e_kj, e_kd, e_kr, e_k0, e_lI, e_lJ, e_lD, e_lA, e_lA0, e_sI, e_sJ, e_sD, e_sA, e_sA0, e_inc, e_I2, e_I2z, e_I1, e_I2J, e_J2I, e_I2D, e_J2, e_lcmp, e_dcmp, e_ddiv, e_ifeq, e_iceq, e_ifne, e_icne, e_iflt, e_iclt, e_ifge, e_icge, e_ifgt, e_icgt, e_ifle, e_icle, e_ca, e_ca2, e_en, e_en0, e_sw, e_lk0, e_lk, e_dup, e_dup2, e_pop, e_ci, e_cj, e_cd, e_cr, e_c0, e_gf, e_gf2, e_gf3, e_pf, e_pf2, e_f0, e_f1, e_f2, e_f20, e_len, e_len2, e_al, e_al2, e_al3, e_alJ, e_alJ2, e_alJ3, e_alA, e_alA2, e_alA3, e_as, e_as2, e_as3, e_asB, e_asB2, e_asJ, e_asJ2, e_asJ3, e_asA, e_asA2, e_asA3, e_new, e_na, e_na2, e_cat0, e_cat1, e_tk0, e_tk1, e_tk2, e_tk3, e_tk4, e_tk5, e_tk6, e_tk7, e_tk8, e_cS, e_cS2, e_cI_0, e_cI_1, e_cI_2, e_cI_3, e_cI_4, e_cI_5, e_cI2, e_cV_0, e_cV_1, e_cV_2, e_cV_3, e_cV_4, e_cV_5, e_cV_6, e_cV_7, e_cV2, e_cV3, e_oi, e_cp, e_r0, e_r1, e_r2, e_r3, e_r4, e_r5, e_r6, e_r60, e_r7, e_W1, e_W2, e_A1, e_A2, e_Wg, e_Ag, e_rf0, e_rf1, e_len0, e_len1, e_vl0, e_vl1, z00, z10, z11, ↓reduceIte, List.getElem?_cons_zero, List.getElem?_cons_succ, List.set_cons_zero, List.set_cons_succ, and_true, true_and, and_self, or_true, true_or, or_false, false_or, Nat.reduceAdd, Nat.reduceSub, Nat.reduceLT, Nat.reduceLeDiff, Nat.reduceEqDiff, Nat.reduceBEq, beq_self_eq_true, Bool.or_false, Bool.false_or, Bool.or_true, Bool.true_or, not_true, not_false_eq_true, reduceCtorEq, s1581_0, s1581_1, s1581_4, s1581_5, s1581_8, s1581_11, s1581_12, s1581_15, s1581_16, s1581_17, s1581_20, s1581_21, s1581_22, gl_1, gl_n, gl_x, gl_l0, gl_l2, List.length_cons, List.length_nil, gn, rp_n, cal (n1280 _) (mp_init (d := d - 1) (s := 17)), hd1, gp, gw, uM, uM2, rnT_M, rnT_n, cal (n1550 _) (ec _), gM, mc_n, mxWr_same]
  exact stk e

