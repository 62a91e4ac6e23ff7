/-! ===== the law's start ===== -/
theorem up1 {f g : Nat → Int32} {k : Nat} (h : 0 < k) : agN 1 (upto k f g) f := fun t ht => upto_lt _ _ (by omega)
theorem law_start {L0 : Nat} {xs : Nat → Int32} {Q : Option Value ⊕ Nat → mxS → Prop} : ∃ τ, WW τ ∧ τ.2.1 = 102 ∧ τ.2.2 ≤ 16000 ∧ τ.1 303 = .inl (0, L0, .inl xs) ∧ WP 200 2582 0 [some (.ref 303), none, none, none, none, none, none, none, none] [] (mxkon L0 xs, 0, 0) Q = WP 200 2582 23 [some (.ref 303), some (.ref 1000), some (.ref 1075), some (.ref 1101), some (.int (nI 0)), none, none, none, none] [] τ Q := by
  obtain ⟨S0, hS0⟩ : ∃ S, S = mxAl (mxkon L0 xs, 0, 0) (.inr (7, [.null, .null, .null, .null, .null, .null])) 6 := ⟨_, rfl⟩
  have n0 : S0.2.1 = 1 := by rw [hS0]; rfl
  have m0 : S0.2.2 = 6 := by rw [hS0]; rfl
  have r0 : S0.1 1000 = .inr (7, [.null, .null, .null, .null, .null, .null]) := by
    rw [hS0]
    show va_up (mxkon L0 xs) 1000 _ 1000 = _
    exact va_up_self _ _ _
  have f0 : ∀ a, a < 1000 → S0.1 a = mxkon L0 xs a := fun a h => by rw [hS0]; exact va_up_ne _ _ (by show a ≠ 1000 + 0; omega)
  obtain ⟨C, c1, c2, c3, c4, ⟨w1, w2, w3, w4, w5, w6, w7, ⟨tl, tr, ws, sn, ps, ls, rn, wc, sl, sr, w8, w9⟩, w10⟩, e1⟩ := i_roof (d := 200 - 1) (by decide) n0 r0
  obtain ⟨D1, hD1⟩ : ∃ S, S = mxgl C (16 + 4005) [.inr (10, [.int 0, .ref (1000 + C.2.1 + 1), .int 0, .int (-1), .ref (1000 + C.2.1 + 2), .ref (1000 + C.2.1 + 3), .ref (1000 + C.2.1 + 4), .ref (1000 + C.2.1 + 5), .ref (1000 + C.2.1 + 6), .int 0, .int 0, .null, .null, .null, .null, .null]), .inl (0, 2000, mxzero 0), .inl (0, 401, mxzero 0), .inl (0, 401, mxzero 0), .inl (0, 401, mxzero 0), .inl (0, 401, mxzero 0), .inl (0, 401, mxzero 0)] := ⟨_, rfl⟩
  have d1 : D1.2.1 = 82 := by rw [hD1]; show C.2.1 + 7 = 82; rw [c1]
  have d2 : D1.2.2 = C.2.2 + 4021 := by rw [hD1]; rfl
  have dg : ∀ j, j < 7 → D1.1 (1075 + j) = [.inr (10, [.int 0, .ref (1000 + C.2.1 + 1), .int 0, .int (-1), .ref (1000 + C.2.1 + 2), .ref (1000 + C.2.1 + 3), .ref (1000 + C.2.1 + 4), .ref (1000 + C.2.1 + 5), .ref (1000 + C.2.1 + 6), .int 0, .int 0, .null, .null, .null, .null, .null]), .inl (0, 2000, mxzero 0), .inl (0, 401, mxzero 0), .inl (0, 401, mxzero 0), .inl (0, 401, mxzero 0), .inl (0, 401, mxzero 0), .inl (0, 401, mxzero 0)][j]?.getD (.inr (98, [])) := fun j hj => by
    rw [hD1, show 1075 + j = 1000 + C.2.1 + j by rw [c1]]
    exact gl_g C _ _ j hj
  have dz : D1.1 1075 = .inr (10, [.int 0, .ref 1076, .int 0, .int (-1), .ref 1077, .ref 1078, .ref 1079, .ref 1080, .ref 1081, .int 0, .int 0, .null, .null, .null, .null, .null]) := by
    refine (dg 0 (by decide)).trans ?_
    rw [c1]
    rfl
  have df : ∀ a, a < 1075 → D1.1 a = C.1 a := fun a h => by
    rw [hD1]
    exact gl_o C _ _ (by omega)
  obtain ⟨D, x1, x2, x3, x4, x5, x6, x7, x8, e2⟩ := i_mod2 (d := 200 - 1) (by decide) d1 dz
  obtain ⟨τ, hτ⟩ : ∃ S, S = mxAl D (.inl (1, 1, mxzero 1)) 1 := ⟨_, rfl⟩
  have n2 : τ.2.1 = 102 := by rw [hτ]; show D.2.1 + 1 = 102; rw [x1]
  have m2 : τ.2.2 = D.2.2 + 1 := by rw [hτ]; rfl
  have fτ : ∀ a, a < 1101 → τ.1 a = D.1 a := fun a h => by
    rw [hτ]
    exact va_up_ne _ _ (by omega)
  have oτ : τ.1 1101 = .inl (1, 1, mxzero 1) := by
    rw [hτ, show 1101 = 1000 + D.2.1 by omega]
    exact va_up_self _ _ _
  have tC : ∀ a, a < 1075 → τ.1 a = C.1 a := fun a h => (fτ a (by omega)).trans ((x3 a (by omega) (by omega)).trans (df a h))
  have tK : ∀ a, a < 1000 → τ.1 a = mxkon L0 xs a := fun a h => (tC a (by omega)).trans ((c3 a h).trans (f0 a h))
  have tD : ∀ j, j < 7 → 0 < j → τ.1 (1075 + j) = D1.1 (1075 + j) := fun j h1 h2 => (fτ _ (by omega)).trans (x3 _ (by omega) (by omega))
  have HC : cwJ τ 0 fz (-1) 1051 1008 1 0 0 0 (fun _ => 0) (fun _ => 0) (fun _ => 0) (fun _ => (0, 0, 0, 0, 0, 0)) (upto 16 fz fz) (fun _ => 0) ls (nI 0) (nI 0) := by
    obtain ⟨kk, w4⟩ := w4
    obtain ⟨y1, y2, y3, y4, y5, y6, y7, y8, y9, y10⟩ := w5
    obtain ⟨z1, z2, z3, z4, z5, z6, z7, z8, z9, z10, z11, z12, z13, z14⟩ := w6
    exact ⟨⟨.inr ⟨rfl, rfl⟩, by omega, by decide, L0, xs, tK⟩, (tC _ (by decide)).trans c4, onB_fr w1 (fun a x y => tC a (by omega)), ⟨0, 0, 46, 0, by decide, (tC _ (by decide)).trans w2⟩, ⟨fzJ, (tC _ (by decide)).trans w3⟩, ⟨kk, fz, fzJ, onB_fr w4 (fun a x y => tC a (by omega))⟩, ⟨y1, y2, y3, y4, y5, y6, y7, y8, onB_fr y9 (fun a x y => tC a (by omega)), y10⟩, ⟨z1, z2, z3, z4, z5, z6, z7, z8, z9, z10, z11, z12, onB_fr z13 (fun a x y => tC a (by omega)), z14⟩, ⟨fz, 0, onB_fr w7 (fun a x y => tC a (by omega))⟩, ⟨tl, tr, ws, sn, ps, rn, wc, sl, sr, onB_fr w8 (fun a x y => tC a (by omega)), w9, fun q hq => absurd hq (Nat.not_lt_zero _)⟩, ⟨_, _, _, _, _, _, _, _, _, _, _, _, _, _, _, onB_fr w10 (fun a x y => tC a (by omega))⟩⟩
  have HR : rwJ τ 0 fz (-1) 1082 1 0 0 0 (fun _ => 0) (fun _ => 0) (fun _ => 0) (fun _ => (0, 0, 0, 0, 0, 0)) fz (fun _ => 0) fz (nI 0) (nI 0) := by
    refine ⟨⟨by omega, by decide, .inl rfl, by omega, L0, xs, tK⟩, ⟨0, 0, 0, 1082, (fτ _ (by decide)).trans x4⟩, (tD 1 (by decide) (by decide)).trans (dg 1 (by decide)), ⟨fz, fz, fz, fz, fz, (tD 2 (by decide) (by decide)).trans (dg 2 (by decide)), (tD 3 (by decide) (by decide)).trans (dg 3 (by decide)), (tD 4 (by decide) (by decide)).trans (dg 4 (by decide)), (tD 5 (by decide) (by decide)).trans (dg 5 (by decide)), (tD 6 (by decide) (by decide)).trans (dg 6 (by decide))⟩, ⟨fun _ => 0, _, _, _, _, _, _, _, _, _, _, _, _, _, onB_fr x5 (fun a x y => fτ a (by omega)), fun k hk => absurd hk (Nat.not_lt_zero _), fun k hk => absurd hk (Nat.not_lt_zero _), by decide, by decide⟩, ⟨fz, (fτ _ (by decide)).trans x6⟩, ⟨fz, onB_fr x7 (fun a x y => fτ a (by omega)), fun q hq => absurd hq (Nat.not_lt_zero _)⟩, ⟨_, _, _, _, onB_fr x8 (fun a x y => fτ a (by omega))⟩⟩
  refine ⟨τ, ⟨_, _, _, _, _, _, _, _, _, _, _, _, _, _, _, _, _, _, _, _, _, _, HC, HR, ⟨by decide, by decide, by decide, by decide, fun z hz => absurd hz (Nat.not_lt_zero _), fun t ht => ⟨0, by decide, up1 (by decide) t ht⟩, fun q hq => absurd hq (Nat.not_lt_zero _)⟩, up1 (by decide), fun q hq => absurd hq (Nat.not_lt_zero _), fun k hk => absurd hk (Nat.not_lt_zero _), fun _ => 0, oτ⟩, n2, by omega, tK 303 (by decide), ?_⟩
  have f1 : ∀ Q, WP (200 - 1) 1152 0 [some (.ref 1000)] [] S0 Q = Q (.inl none) C := fun Q => e1
  have f2 : ∀ Q, WP (200 - 1) 1536 0 [some (.ref 1075)] [] (mxAl C (.inr (10, [.int 0, .null, .int 0, .int 0, .null, .null, .null, .null, .null, .int 0, .int 0, .null, .null, .null, .null, .null])) 16) Q = Q (.inl none) D := fun Q => by
    rw [gl_1, show (1075 : Nat) = 1000 + C.2.1 by rw [c1]]
    refine i_mod1 ?_
    rw [← hD1, c1]
    exact e2
  simp only [WP_eq, e_go, e_none, e_ite, e_thr0, e_ret, e_thr, e_call, e_Kv, e_Kn, e_Kx, e_K2, e_K20, e_at0, e_s1_0, e_s2_0, e_at1, e_s1_1, e_s2_1, e_at2, e_s1_2, e_s2_2, e_at3, e_s1_3, e_s2_3, e_at4, e_s1_4, e_s2_4, e_at5, e_s1_5, e_s2_5, e_at6, e_s1_6, e_s2_6, e_at7, e_s1_7, e_s2_7, e_at8, e_s1_8, e_s2_8, e_at9, e_s1_9, e_s2_9, e_at10, e_s1_10, e_s2_10, e_at11, e_s1_11, e_s2_11, e_at12, e_s1_12, e_s2_12, e_at13, e_s1_13, e_s2_13, e_kn, e_ki, e_kj, e_kd, e_kr, e_k0, e_lI, e_lJ, e_lD, e_lA, e_lA0, e_sI, e_sJ, e_sD, e_sA, e_sA0, e_inc, e_I2, e_I2z, e_I1, e_I2J, e_J2I, e_I2D, e_J2, e_lcmp, e_dcmp, e_ddiv, e_ifeq, e_iceq, e_ifne, e_icne, e_iflt, e_iclt, e_ifge, e_icge, e_ifgt, e_icgt, e_ifle, e_icle, e_ca, e_ca2, e_en, e_en0, e_sw, e_lk0, e_lk, e_dup, e_dup2, e_pop, e_ci, e_cj, e_cd, e_cr, e_c0, e_gf, e_gf2, e_gf3, e_pf, e_pf2, e_f0, e_f1, e_f2, e_f20, e_len, e_len2, e_al, e_al2, e_al3, e_alJ, e_alJ2, e_alJ3, e_alA, e_alA2, e_alA3, e_as, e_as2, e_as3, e_asB, e_asB2, e_asJ, e_asJ2, e_asJ3, e_asA, e_asA2, e_asA3, e_new, e_na, e_na2, e_cat0, e_cat1, e_tk0, e_tk1, e_tk2, e_tk3, e_tk4, e_tk5, e_tk6, e_tk7, e_tk8, e_cS, e_cS2, e_cI_0, e_cI_1, e_cI_2, e_cI_3, e_cI_4, e_cI_5, e_cI2, e_cV_0, e_cV_1, e_cV_2, e_cV_3, e_cV_4, e_cV_5, e_cV_6, e_cV_7, e_cV2, e_cV3, e_oi, e_cp, e_r0, e_r1, e_r2, e_r3, e_r4, e_r5, e_r6, e_r60, e_r7, e_W1, e_W2, e_A1, e_A2, e_Wg, e_Ag, e_rf0, e_rf1, e_len0, e_len1, e_vl0, e_vl1, z00, z10, z11, ↓reduceIte, List.getElem?_cons_zero, List.getElem?_cons_succ, List.set_cons_zero, List.set_cons_succ, and_true, true_and, and_self, or_true, true_or, or_false, false_or, Nat.reduceAdd, Nat.reduceSub, Nat.reduceLT, Nat.reduceLeDiff, Nat.reduceEqDiff, Nat.reduceBEq, beq_self_eq_true, Bool.or_false, Bool.false_or, Bool.or_true, Bool.true_or, not_true, not_false_eq_true, reduceCtorEq, s2582_0, s2582_3, s2582_4, s2582_7, s2582_8, s2582_11, s2582_12, s2582_15, s2582_16, s2582_17, s2582_19, s2582_20, s2582_21, Nat.add_zero, List.length_cons, List.length_nil, ← hS0, cal (n1152 _) (f1 _), c1, cal (n1536 _) (f2 _), x1, ixq_1, ← hτ]
theorem law_run {L0 : Nat} {xs : Nat → Int32} (hL : L0 ≤ 3072) {Q : Option Value ⊕ Nat → mxS → Prop} : ∃ τ', τ'.2.1 ≤ 102 + 26 * 513 ∧ τ'.2.2 ≤ 16000 + 1400 * 513 ∧ WP 200 2582 0 [some (.ref 303), none, none, none, none, none, none, none, none] [] (mxkon L0 xs, 0, 0) Q = Q (.inl (some (.int (nI 1)))) τ' := by
  obtain ⟨τ, W, n1, n2, hk, e⟩ := law_start (L0 := L0) (xs := xs) (Q := Q)
  obtain ⟨τ', h1, h2, e2⟩ := ll_all (by omega) 513 0 none none none none τ W hk (by omega) (by omega) (Q := Q)
  exact ⟨τ', by omega, by omega, e.trans e2⟩
