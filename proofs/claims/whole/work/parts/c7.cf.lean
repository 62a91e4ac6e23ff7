/-! ===== the class's calls: the best tower to build, the mean ===== -/
theorem tb_ge (f : Nat → Int32) : ∀ k, -1 ≤ (tbS f k).2
  | 0 => by
    rw [tbS]
    decide
  | k + 1 => by
    have ih := tb_ge f k
    rw [tbS]
    split
    · exact ih
    · rename_i h
      exact Int32.le_trans ih (Int32.le_of_lt (Int32.not_le.mp h))
theorem up_id {α : Type} (h : Nat → α) (i : Nat) (x y : α) (e : y = h i) : va_up (va_up h i x) i y = h := by
  funext j
  by_cases q : j = i
  · rw [q, va_up_self, e]
  · rw [va_up_ne _ _ q, va_up_ne _ _ q]
theorem bb_L {d : Nat} {τ : mxS} {x tp r k p t g n P : Nat} {hs tl tr ws sn ps ls : Nat → Int32} {pl : Nat → Nat} {dy co rn wc sl sr : Int32} (H : csB τ x tp r k p t g n P hs tl tr ws sn ps ls pl dy co rn wc sl sr) (HT : csT τ x k p t) (hd : 4 ≤ d) {hs1 ls1 : Nat → Int32} (hr1 : hR n hs1) : ∀ m i τ1, i + m = n → skS τ t k n P hs1 pl ls1 dy co τ1 → ∃ τ', skS τ t k n P hs1 pl ls1 dy co τ' ∧ ∀ {Q : Option Value ⊕ Nat → mxS → Prop}, WP d 1187 17 [some (.ref x), some (.int (tbS (rwF hs1 n) i).1), some (.int (tbS (rwF hs1 n) i).2), some (.int (nI i))] [] τ1 Q = Q (.inl (some (.int (tbS (rwF hs1 n) n).1))) τ' := by
  have hd1 : 1 ≤ d := by omega
  obtain ⟨⟨hX, ux⟩, ⟨hp1, hp2⟩, hS, hse, hps, hpn, hn, h0, hP⟩ := id H; have gp : τ.1 p = _ := (congrArg (fun z => z.1 p) hS).symm.trans (sk_g0 ..); have up : 1000 ≤ p ∧ p < 1000 + τ.2.1 := ⟨hp1, by omega⟩
  obtain ⟨⟨hsT, tlT, trT, wsT, snT, psT, lsT, tcT, pcT, dnT, coT, rnT', wcT, slT, srT, hT⟩, ⟨ks, kz, hK1⟩, ⟨ht1, ht2⟩, hpt, ⟨hk1, hk2⟩, htk, hpk, hxp, hxk, hxt⟩ := id HT
  have ut : 1000 ≤ t ∧ t < 1000 + τ.2.1 := ⟨ht1, by omega⟩
  intro m
  induction m with
  | zero =>
    intro i τ1 hi g3
    have hi' : i = n := by omega
    subst hi'
    have gX1 := (sS_o g3 hxt hxk).trans hX
    have gn1 := sS_n g3
    have gp1 := (sS_o g3 (a := p) (by omega) (by omega)).trans gp
    refine ⟨τ1, g3, fun {Q} => ?_⟩
    conv => lhs; rw [WP_eq, s1187_17]
    simp only [WP_eq, e_go, e_none, e_ite, e_thr0, e_ret, e_thr, e_call, e_Kv, e_Kn, e_Kx, e_K2, e_K20, e_at0, e_s1_0, e_s2_0, e_at1, e_s1_1, e_s2_1, e_at2, e_s1_2, e_s2_2, e_at3, e_s1_3, e_s2_3, e_at4, e_s1_4, e_s2_4, e_at5, e_s1_5, e_s2_5, e_at6, e_s1_6, e_s2_6, e_at7, e_s1_7, e_s2_7, e_at8, e_s1_8, e_s2_8, e_at9, e_s1_9, e_s2_9, e_at10, e_s1_10, e_s2_10, e_at11, e_s1_11, e_s2_11, e_at12, e_s1_12, e_s2_12, e_at13, e_s1_13, e_s2_13, e_kn, e_ki, e_kj, e_kd, e_kr, e_k0, e_lI, e_lJ, e_lD, e_lA, e_lA0, e_sI, e_sJ, e_sD, e_sA, e_sA0, e_inc, e_I2, e_I2z, e_I1, e_I2J, e_J2I, e_I2D, e_J2, e_lcmp, e_dcmp, e_ddiv, e_ifeq, e_iceq, e_ifne, e_icne, e_iflt, e_iclt, e_ifge, e_icge, e_ifgt, e_icgt, e_ifle, e_icle, e_ca, e_ca2, e_en, e_en0, e_sw, e_lk0, e_lk, e_dup, e_dup2, e_pop, e_ci, e_cj, e_cd, e_cr, e_c0, e_gf, e_gf2, e_gf3, e_pf, e_pf2, e_f0, e_f1, e_f2, e_f20, e_len, e_len2, e_al, e_al2, e_al3, e_alJ, e_alJ2, e_alJ3, e_alA, e_alA2, e_alA3, e_as, e_as2, e_as3, e_asB, e_asB2, e_asJ, e_asJ2, e_asJ3, e_asA, e_asA2, e_asA3, e_new, e_na, e_na2, e_cat0, e_cat1, e_tk0, e_tk1, e_tk2, e_tk3, e_tk4, e_tk5, e_tk6, e_tk7, e_tk8, e_cS, e_cS2, e_cI_0, e_cI_1, e_cI_2, e_cI_3, e_cI_4, e_cI_5, e_cI2, e_cV_0, e_cV_1, e_cV_2, e_cV_3, e_cV_4, e_cV_5, e_cV_6, e_cV_7, e_cV2, e_cV3, e_oi, e_cp, e_r0, e_r1, e_r2, e_r3, e_r4, e_r5, e_r6, e_r60, e_r7, e_W1, e_W2, e_A1, e_A2, e_Wg, e_Ag, e_rf0, e_rf1, e_len0, e_len1, e_vl0, e_vl1, z00, z10, z11, ↓reduceIte, List.getElem?_cons_zero, List.getElem?_cons_succ, List.set_cons_zero, List.set_cons_succ, and_true, true_and, and_self, or_true, true_or, or_false, false_or, Nat.reduceAdd, Nat.reduceSub, Nat.reduceLT, Nat.reduceLeDiff, Nat.reduceEqDiff, Nat.reduceBEq, beq_self_eq_true, Bool.or_false, Bool.false_or, Bool.or_true, Bool.true_or, not_true, not_false_eq_true, reduceCtorEq, s1187_18, s1187_19, s1187_22, s1187_25, s1187_28, s1187_29, s1187_32, s1187_33, s1187_34, s1187_37, s1187_40, s1187_41, s1187_44, s1187_47, s1187_48, s1187_51, s1187_52, s1187_53, s1187_54, s1187_57, s1187_60, s1187_61, s1187_62, s1187_65, s1187_66, s1187_67, s1187_70, s1187_71, s1187_74, s1187_77, s1187_78, gX1, gn1, gp1, ux, up, Int32.le_refl]
  | succ m ih =>
    intro i τ1 hi g3
    have gX1 := (sS_o g3 hxt hxk).trans hX
    have gn1 := sS_n g3
    have gp1 := (sS_o g3 (a := p) (by omega) (by omega)).trans gp
    obtain ⟨wt, slt, srt, gt1⟩ := sS_p g3
    have hc : ¬ nI n ≤ nI i := nI_ge (by omega) (by omega)
    obtain ⟨w, w1, w2⟩ := hr1 i (by omega)
    by_cases q : w = 20
    · have e3 := fun (Q : Option Value ⊕ Nat → mxS → Prop) => sS_r0 (d := d - 1) (i := i) (b := nI 1) ht1 ht2 g3 (by omega) (.inr (.inr (by rw [w2, q]; decide))) (Q := Q)
      have ef : rwF hs1 n i = -1 := by
        unfold rwF
        rw [if_pos (by rw [w2, q]; decide)]
      have et : tbS (rwF hs1 n) (i + 1) = tbS (rwF hs1 n) i := by
        rw [tbS, ef, if_pos (tb_ge _ i)]
      obtain ⟨τ', g5, e5⟩ := ih (i + 1) τ1 (by omega) g3
      rw [et] at e5
      refine ⟨τ', g5, fun {Q} => ?_⟩
      conv => lhs; rw [WP_eq, s1187_17]
      simp only [WP_eq, e_go, e_none, e_ite, e_thr0, e_ret, e_thr, e_call, e_Kv, e_Kn, e_Kx, e_K2, e_K20, e_at0, e_s1_0, e_s2_0, e_at1, e_s1_1, e_s2_1, e_at2, e_s1_2, e_s2_2, e_at3, e_s1_3, e_s2_3, e_at4, e_s1_4, e_s2_4, e_at5, e_s1_5, e_s2_5, e_at6, e_s1_6, e_s2_6, e_at7, e_s1_7, e_s2_7, e_at8, e_s1_8, e_s2_8, e_at9, e_s1_9, e_s2_9, e_at10, e_s1_10, e_s2_10, e_at11, e_s1_11, e_s2_11, e_at12, e_s1_12, e_s2_12, e_at13, e_s1_13, e_s2_13, e_kn, e_ki, e_kj, e_kd, e_kr, e_k0, e_lI, e_lJ, e_lD, e_lA, e_lA0, e_sI, e_sJ, e_sD, e_sA, e_sA0, e_inc, e_I2, e_I2z, e_I1, e_I2J, e_J2I, e_I2D, e_J2, e_lcmp, e_dcmp, e_ddiv, e_ifeq, e_iceq, e_ifne, e_icne, e_iflt, e_iclt, e_ifge, e_icge, e_ifgt, e_icgt, e_ifle, e_icle, e_ca, e_ca2, e_en, e_en0, e_sw, e_lk0, e_lk, e_dup, e_dup2, e_pop, e_ci, e_cj, e_cd, e_cr, e_c0, e_gf, e_gf2, e_gf3, e_pf, e_pf2, e_f0, e_f1, e_f2, e_f20, e_len, e_len2, e_al, e_al2, e_al3, e_alJ, e_alJ2, e_alJ3, e_alA, e_alA2, e_alA3, e_as, e_as2, e_as3, e_asB, e_asB2, e_asJ, e_asJ2, e_asJ3, e_asA, e_asA2, e_asA3, e_new, e_na, e_na2, e_cat0, e_cat1, e_tk0, e_tk1, e_tk2, e_tk3, e_tk4, e_tk5, e_tk6, e_tk7, e_tk8, e_cS, e_cS2, e_cI_0, e_cI_1, e_cI_2, e_cI_3, e_cI_4, e_cI_5, e_cI2, e_cV_0, e_cV_1, e_cV_2, e_cV_3, e_cV_4, e_cV_5, e_cV_6, e_cV_7, e_cV2, e_cV3, e_oi, e_cp, e_r0, e_r1, e_r2, e_r3, e_r4, e_r5, e_r6, e_r60, e_r7, e_W1, e_W2, e_A1, e_A2, e_Wg, e_Ag, e_rf0, e_rf1, e_len0, e_len1, e_vl0, e_vl1, z00, z10, z11, ↓reduceIte, List.getElem?_cons_zero, List.getElem?_cons_succ, List.set_cons_zero, List.set_cons_succ, and_true, true_and, and_self, or_true, true_or, or_false, false_or, Nat.reduceAdd, Nat.reduceSub, Nat.reduceLT, Nat.reduceLeDiff, Nat.reduceEqDiff, Nat.reduceBEq, beq_self_eq_true, Bool.or_false, Bool.false_or, Bool.or_true, Bool.true_or, not_true, not_false_eq_true, reduceCtorEq, s1187_18, s1187_19, s1187_22, s1187_25, s1187_28, s1187_29, s1187_32, s1187_33, s1187_34, s1187_37, s1187_40, s1187_41, s1187_44, s1187_47, s1187_48, s1187_51, s1187_52, s1187_53, s1187_54, s1187_57, s1187_60, s1187_61, s1187_62, s1187_65, s1187_66, s1187_67, s1187_70, s1187_71, s1187_74, gX1, gn1, gp1, gt1, ux, up, ut, hc, hd1, cal (n647 _ _ _) (e3 _), z00, nIi]
      exact stk (e5 (Q := Q))
    · have e20 : ¬ nI 20 < nI (w + 1) := nI_nlt (by omega) (by decide)
      obtain ⟨τ2, g4, e3⟩ := sS_r1 (d := d - 1) (i := i) (b := nI 1) ht1 ht2 g3 (by omega) hn (by omega) (by
        rw [w2, nIm]
        rintro (z | z | z)
        · exact absurd z (by decide)
        · exact nI_pos (by omega) z
        · exact e20 z)
      have gX2 := (sS_o g4 hxt hxk).trans hX
      have gn2 := sS_n g4
      obtain ⟨wt2, slt2, srt2, gt2⟩ := sS_p g4
      have ev : va_up hs1 i (hs1 i + nI 1) i + -1 = hs1 i := by
        rw [va_up_self, Int32.add_assoc]
        show hs1 i + 0 = hs1 i
        simp
      obtain ⟨τ3, g5, e5⟩ := sS_r1 (d := d - 1) (i := i) (b := -1) ht1 ht2 g4 (by omega) hn (by omega) (by
        rw [ev, w2]
        rintro (z | z | z)
        · exact absurd z (by decide)
        · exact nI_pos (by omega) z
        · exact nI_nlt w1 (by decide) z)
      rw [up_id hs1 i _ _ ev] at g5
      have gX3 := (sS_o g5 hxt hxk).trans hX
      have gn3 := sS_n g5
      obtain ⟨τ', g6, e6⟩ := ih (i + 1) τ3 (by omega) g5
      have ef : rwF hs1 n i = suS (waS (va_up hs1 i (hs1 i + nI 1)) n) n := by
        unfold rwF
        rw [if_neg (by rw [w2]; exact nI_ge (by omega) (by decide))]
      refine ⟨τ', g6, fun {Q} => ?_⟩
      have e6 := e6 (Q := Q)
      rw [tbS, ef] at e6
      by_cases q2 : suS (waS (va_up hs1 i (hs1 i + nI 1)) n) n ≤ (tbS (rwF hs1 n) i).2
      · rw [if_pos q2] at e6
        conv => lhs; rw [WP_eq, s1187_17]
        simp only [WP_eq, e_go, e_none, e_ite, e_thr0, e_ret, e_thr, e_call, e_Kv, e_Kn, e_Kx, e_K2, e_K20, e_at0, e_s1_0, e_s2_0, e_at1, e_s1_1, e_s2_1, e_at2, e_s1_2, e_s2_2, e_at3, e_s1_3, e_s2_3, e_at4, e_s1_4, e_s2_4, e_at5, e_s1_5, e_s2_5, e_at6, e_s1_6, e_s2_6, e_at7, e_s1_7, e_s2_7, e_at8, e_s1_8, e_s2_8, e_at9, e_s1_9, e_s2_9, e_at10, e_s1_10, e_s2_10, e_at11, e_s1_11, e_s2_11, e_at12, e_s1_12, e_s2_12, e_at13, e_s1_13, e_s2_13, e_kn, e_ki, e_kj, e_kd, e_kr, e_k0, e_lI, e_lJ, e_lD, e_lA, e_lA0, e_sI, e_sJ, e_sD, e_sA, e_sA0, e_inc, e_I2, e_I2z, e_I1, e_I2J, e_J2I, e_I2D, e_J2, e_lcmp, e_dcmp, e_ddiv, e_ifeq, e_iceq, e_ifne, e_icne, e_iflt, e_iclt, e_ifge, e_icge, e_ifgt, e_icgt, e_ifle, e_icle, e_ca, e_ca2, e_en, e_en0, e_sw, e_lk0, e_lk, e_dup, e_dup2, e_pop, e_ci, e_cj, e_cd, e_cr, e_c0, e_gf, e_gf2, e_gf3, e_pf, e_pf2, e_f0, e_f1, e_f2, e_f20, e_len, e_len2, e_al, e_al2, e_al3, e_alJ, e_alJ2, e_alJ3, e_alA, e_alA2, e_alA3, e_as, e_as2, e_as3, e_asB, e_asB2, e_asJ, e_asJ2, e_asJ3, e_asA, e_asA2, e_asA3, e_new, e_na, e_na2, e_cat0, e_cat1, e_tk0, e_tk1, e_tk2, e_tk3, e_tk4, e_tk5, e_tk6, e_tk7, e_tk8, e_cS, e_cS2, e_cI_0, e_cI_1, e_cI_2, e_cI_3, e_cI_4, e_cI_5, e_cI2, e_cV_0, e_cV_1, e_cV_2, e_cV_3, e_cV_4, e_cV_5, e_cV_6, e_cV_7, e_cV2, e_cV3, e_oi, e_cp, e_r0, e_r1, e_r2, e_r3, e_r4, e_r5, e_r6, e_r60, e_r7, e_W1, e_W2, e_A1, e_A2, e_Wg, e_Ag, e_rf0, e_rf1, e_len0, e_len1, e_vl0, e_vl1, z00, z10, z11, ↓reduceIte, List.getElem?_cons_zero, List.getElem?_cons_succ, List.set_cons_zero, List.set_cons_succ, and_true, true_and, and_self, or_true, true_or, or_false, false_or, Nat.reduceAdd, Nat.reduceSub, Nat.reduceLT, Nat.reduceLeDiff, Nat.reduceEqDiff, Nat.reduceBEq, beq_self_eq_true, Bool.or_false, Bool.false_or, Bool.or_true, Bool.true_or, not_true, not_false_eq_true, reduceCtorEq, s1187_18, s1187_19, s1187_22, s1187_25, s1187_28, s1187_29, s1187_32, s1187_33, s1187_34, s1187_37, s1187_40, s1187_41, s1187_44, s1187_47, s1187_48, s1187_51, s1187_52, s1187_53, s1187_54, s1187_57, s1187_60, s1187_61, s1187_62, s1187_65, s1187_66, s1187_67, s1187_70, s1187_71, s1187_74, gX1, gn1, gp1, gt1, ux, up, ut, hc, hd1, cal (n647 _ _ _) (e3), z10, gX2, gn2, gt2, q2, cal (n647 _ _ _) (e5), nIi]
        exact stk e6
      · rw [if_neg q2] at e6
        conv => lhs; rw [WP_eq, s1187_17]
        simp only [WP_eq, e_go, e_none, e_ite, e_thr0, e_ret, e_thr, e_call, e_Kv, e_Kn, e_Kx, e_K2, e_K20, e_at0, e_s1_0, e_s2_0, e_at1, e_s1_1, e_s2_1, e_at2, e_s1_2, e_s2_2, e_at3, e_s1_3, e_s2_3, e_at4, e_s1_4, e_s2_4, e_at5, e_s1_5, e_s2_5, e_at6, e_s1_6, e_s2_6, e_at7, e_s1_7, e_s2_7, e_at8, e_s1_8, e_s2_8, e_at9, e_s1_9, e_s2_9, e_at10, e_s1_10, e_s2_10, e_at11, e_s1_11, e_s2_11, e_at12, e_s1_12, e_s2_12, e_at13, e_s1_13, e_s2_13, e_kn, e_ki, e_kj, e_kd, e_kr, e_k0, e_lI, e_lJ, e_lD, e_lA, e_lA0, e_sI, e_sJ, e_sD, e_sA, e_sA0, e_inc, e_I2, e_I2z, e_I1, e_I2J, e_J2I, e_I2D, e_J2, e_lcmp, e_dcmp, e_ddiv, e_ifeq, e_iceq, e_ifne, e_icne, e_iflt, e_iclt, e_ifge, e_icge, e_ifgt, e_icgt, e_ifle, e_icle, e_ca, e_ca2, e_en, e_en0, e_sw, e_lk0, e_lk, e_dup, e_dup2, e_pop, e_ci, e_cj, e_cd, e_cr, e_c0, e_gf, e_gf2, e_gf3, e_pf, e_pf2, e_f0, e_f1, e_f2, e_f20, e_len, e_len2, e_al, e_al2, e_al3, e_alJ, e_alJ2, e_alJ3, e_alA, e_alA2, e_alA3, e_as, e_as2, e_as3, e_asB, e_asB2, e_asJ, e_asJ2, e_asJ3, e_asA, e_asA2, e_asA3, e_new, e_na, e_na2, e_cat0, e_cat1, e_tk0, e_tk1, e_tk2, e_tk3, e_tk4, e_tk5, e_tk6, e_tk7, e_tk8, e_cS, e_cS2, e_cI_0, e_cI_1, e_cI_2, e_cI_3, e_cI_4, e_cI_5, e_cI2, e_cV_0, e_cV_1, e_cV_2, e_cV_3, e_cV_4, e_cV_5, e_cV_6, e_cV_7, e_cV2, e_cV3, e_oi, e_cp, e_r0, e_r1, e_r2, e_r3, e_r4, e_r5, e_r6, e_r60, e_r7, e_W1, e_W2, e_A1, e_A2, e_Wg, e_Ag, e_rf0, e_rf1, e_len0, e_len1, e_vl0, e_vl1, z00, z10, z11, ↓reduceIte, List.getElem?_cons_zero, List.getElem?_cons_succ, List.set_cons_zero, List.set_cons_succ, and_true, true_and, and_self, or_true, true_or, or_false, false_or, Nat.reduceAdd, Nat.reduceSub, Nat.reduceLT, Nat.reduceLeDiff, Nat.reduceEqDiff, Nat.reduceBEq, beq_self_eq_true, Bool.or_false, Bool.false_or, Bool.or_true, Bool.true_or, not_true, not_false_eq_true, reduceCtorEq, s1187_18, s1187_19, s1187_22, s1187_25, s1187_28, s1187_29, s1187_32, s1187_33, s1187_34, s1187_37, s1187_40, s1187_41, s1187_44, s1187_47, s1187_48, s1187_51, s1187_52, s1187_53, s1187_54, s1187_57, s1187_60, s1187_61, s1187_62, s1187_65, s1187_66, s1187_67, s1187_70, s1187_71, s1187_74, gX1, gn1, gp1, gt1, ux, up, ut, hc, hd1, cal (n647 _ _ _) (e3), z10, gX2, gn2, gt2, q2, cal (n647 _ _ _) (e5), nIi]
        exact stk e6
theorem q_bestToBuild {d : Nat} {τ : mxS} {x tp r k p t g n P : Nat} {hs tl tr ws sn ps ls : Nat → Int32} {pl : Nat → Nat} {dy co rn wc sl sr : Int32} (H : csB τ x tp r k p t g n P hs tl tr ws sn ps ls pl dy co rn wc sl sr) (HT : csT τ x k p t) (hr : hR n hs) (hd : 4 ≤ d) : ∃ (hs' : Nat → Int32) (pl' : Nat → Nat) (ls' : Nat → Int32) (dy' co' : Int32) (τ' : mxS), skS τ t k n P hs' pl' ls' dy' co' τ' ∧ ∀ {Q : Option Value ⊕ Nat → mxS → Prop}, WP d 1187 0 [some (.ref x), none, none, none] [] τ Q = Q (.inl (some (.int (tbS (rwF hs n) n).1))) τ' := by
  have hd1 : 1 ≤ d := by omega
  obtain ⟨hs1, ls1, τ1, g1, g2, g3, ec⟩ := cp_t H HT
  obtain ⟨τ', g4, e4⟩ := bb_L (d := d) H HT hd (hR_cg g1 hr) n 0 τ1 (Nat.zero_add _) g3
  obtain ⟨⟨hX, ux⟩, ⟨hp1, hp2⟩, hS, hse, hps, hpn, hn, h0, hP⟩ := id H; have gp : τ.1 p = _ := (congrArg (fun z => z.1 p) hS).symm.trans (sk_g0 ..); have up : 1000 ≤ p ∧ p < 1000 + τ.2.1 := ⟨hp1, by omega⟩
  obtain ⟨⟨hsT, tlT, trT, wsT, snT, psT, lsT, tcT, pcT, dnT, coT, rnT', wcT, slT, srT, hT⟩, ⟨ks, kz, hK1⟩, ⟨ht1, ht2⟩, hpt, ⟨hk1, hk2⟩, htk, hpk, hxp, hxk, hxt⟩ := id HT
  have ut : 1000 ≤ t ∧ t < 1000 + τ.2.1 := ⟨ht1, by omega⟩
  have gt : τ.1 t = _ := (congrArg (fun z => z.1 t) hT).symm.trans (sk_g0 ..)
  refine ⟨_, _, _, _, _, τ', g4, fun {Q} => ?_⟩
  have e4 := e4 (Q := Q)
  rw [show tbS (rwF hs n) n = tbS (rwF hs1 n) n from tbS_cg n (rwF_cg g1)]
  simp only [WP_eq, e_go, e_none, e_ite, e_thr0, e_ret, e_thr, e_call, e_Kv, e_Kn, e_Kx, e_K2, e_K20, e_at0, e_s1_0, e_s2_0, e_at1, e_s1_1, e_s2_1, e_at2, e_s1_2, e_s2_2, e_at3, e_s1_3, e_s2_3, e_at4, e_s1_4, e_s2_4, e_at5, e_s1_5, e_s2_5, e_at6, e_s1_6, e_s2_6, e_at7, e_s1_7, e_s2_7, e_at8, e_s1_8, e_s2_8, e_at9, e_s1_9, e_s2_9, e_at10, e_s1_10, e_s2_10, e_at11, e_s1_11, e_s2_11, e_at12, e_s1_12, e_s2_12, e_at13, e_s1_13, e_s2_13, e_kn, e_ki, e_kj, e_kd, e_kr, e_k0, e_lI, e_lJ, e_lD, e_lA, e_lA0, e_sI, e_sJ, e_sD, e_sA, e_sA0, e_inc, e_I2, e_I2z, e_I1, e_I2J, e_J2I, e_I2D, e_J2, e_lcmp, e_dcmp, e_ddiv, e_ifeq, e_iceq, e_ifne, e_icne, e_iflt, e_iclt, e_ifge, e_icge, e_ifgt, e_icgt, e_ifle, e_icle, e_ca, e_ca2, e_en, e_en0, e_sw, e_lk0, e_lk, e_dup, e_dup2, e_pop, e_ci, e_cj, e_cd, e_cr, e_c0, e_gf, e_gf2, e_gf3, e_pf, e_pf2, e_f0, e_f1, e_f2, e_f20, e_len, e_len2, e_al, e_al2, e_al3, e_alJ, e_alJ2, e_alJ3, e_alA, e_alA2, e_alA3, e_as, e_as2, e_as3, e_asB, e_asB2, e_asJ, e_asJ2, e_asJ3, e_asA, e_asA2, e_asA3, e_new, e_na, e_na2, e_cat0, e_cat1, e_tk0, e_tk1, e_tk2, e_tk3, e_tk4, e_tk5, e_tk6, e_tk7, e_tk8, e_cS, e_cS2, e_cI_0, e_cI_1, e_cI_2, e_cI_3, e_cI_4, e_cI_5, e_cI2, e_cV_0, e_cV_1, e_cV_2, e_cV_3, e_cV_4, e_cV_5, e_cV_6, e_cV_7, e_cV2, e_cV3, e_oi, e_cp, e_r0, e_r1, e_r2, e_r3, e_r4, e_r5, e_r6, e_r60, e_r7, e_W1, e_W2, e_A1, e_A2, e_Wg, e_Ag, e_rf0, e_rf1, e_len0, e_len1, e_vl0, e_vl1, z00, z10, z11, ↓reduceIte, List.getElem?_cons_zero, List.getElem?_cons_succ, List.set_cons_zero, List.set_cons_succ, and_true, true_and, and_self, or_true, true_or, or_false, false_or, Nat.reduceAdd, Nat.reduceSub, Nat.reduceLT, Nat.reduceLeDiff, Nat.reduceEqDiff, Nat.reduceBEq, beq_self_eq_true, Bool.or_false, Bool.false_or, Bool.or_true, Bool.true_or, not_true, not_false_eq_true, reduceCtorEq, s1187_0, s1187_1, s1187_4, s1187_5, s1187_8, s1187_11, s1187_12, s1187_13, s1187_14, s1187_15, s1187_16, hX, ux, gp, up, gt, ut, hd1, cal (n642 _ _) (ec (d - 1) (by omega))]
  exact stk e4
theorem sh_b {n : Nat} {hs : Nat → Int32} (hr : hR n hs) : ∀ k, k ≤ n → ∃ s, s ≤ 20 * k ∧ shS hs k = nI s
  | 0, _ => ⟨0, Nat.le_refl _, rfl⟩
  | k + 1, hk => by
    obtain ⟨s, h1, h2⟩ := sh_b hr k (by omega)
    obtain ⟨v, v1, v2⟩ := hr k (by omega)
    exact ⟨s + v, by omega, by rw [shS, h2, v2, nI_add]⟩
theorem mn_ok : ∀ n, n < 17 → 1 ≤ n → ∀ s, s < 321 → FP.ddiv (FP.i2d (nI s)) (FP.i2d (nI n)) &&& 9223372036854775807 ≤ 9218868437227405312 := by decide +kernel
theorem mn_b {n : Nat} {hs : Nat → Int32} (hr : hR n hs) (h0 : 0 < n) (hn : n ≤ 16) : FP.ddiv (FP.i2d (shS hs n)) (FP.i2d (nI n)) &&& 9223372036854775807 ≤ 9218868437227405312 := by
  obtain ⟨s, h1, h2⟩ := sh_b hr n (Nat.le_refl _)
  rw [h2]
  exact mn_ok n (by omega) h0 s (by omega)
theorem q_meanHeight {d : Nat} {τ : mxS} {x tp r k p t g n P : Nat} {hs tl tr ws sn ps ls : Nat → Int32} {pl : Nat → Nat} {dy co rn wc sl sr : Int32} (H : csB τ x tp r k p t g n P hs tl tr ws sn ps ls pl dy co rn wc sl sr) (hr : hR n hs) (hd : 1 ≤ d) {Q : Option Value ⊕ Nat → mxS → Prop} : WP d 1189 0 [some (.ref x)] [] τ Q = Q (.inl (some (.double (FP.ddiv (FP.i2d (shS hs n)) (FP.i2d (nI n)))))) τ := by
  obtain ⟨⟨hX, ux⟩, ⟨hp1, hp2⟩, hS, hse, hps, hpn, hn, h0, hP⟩ := id H; have gp : τ.1 p = _ := (congrArg (fun z => z.1 p) hS).symm.trans (sk_g0 ..); have up : 1000 ≤ p ∧ p < 1000 + τ.2.1 := ⟨hp1, by omega⟩
  have e := fun (Q : Option Value ⊕ Nat → mxS → Prop) => w_sumOfHeights (d := d - 1) (σ := τ) (p := p) (hs := hs) (tl := tl) (tr := tr) (ws := ws) (sn := sn) (ps := ps) (ls := ls) (pc := nI P) (dn := dy) (co := co) (rn := rn) (wc := wc) (sl := sl) (sr := sr) (Q := Q) hp1 hp2 (n := n) rfl hn
  rw [hS] at e
  have hc : ¬ nI n ≤ 0 := nI_nle h0 (by omega)
  have hb := mn_b hr h0 hn
  simp only [WP_eq, e_go, e_none, e_ite, e_thr0, e_ret, e_thr, e_call, e_Kv, e_Kn, e_Kx, e_K2, e_K20, e_at0, e_s1_0, e_s2_0, e_at1, e_s1_1, e_s2_1, e_at2, e_s1_2, e_s2_2, e_at3, e_s1_3, e_s2_3, e_at4, e_s1_4, e_s2_4, e_at5, e_s1_5, e_s2_5, e_at6, e_s1_6, e_s2_6, e_at7, e_s1_7, e_s2_7, e_at8, e_s1_8, e_s2_8, e_at9, e_s1_9, e_s2_9, e_at10, e_s1_10, e_s2_10, e_at11, e_s1_11, e_s2_11, e_at12, e_s1_12, e_s2_12, e_at13, e_s1_13, e_s2_13, e_kn, e_ki, e_kj, e_kd, e_kr, e_k0, e_lI, e_lJ, e_lD, e_lA, e_lA0, e_sI, e_sJ, e_sD, e_sA, e_sA0, e_inc, e_I2, e_I2z, e_I1, e_I2J, e_J2I, e_I2D, e_J2, e_lcmp, e_dcmp, e_ddiv, e_ifeq, e_iceq, e_ifne, e_icne, e_iflt, e_iclt, e_ifge, e_icge, e_ifgt, e_icgt, e_ifle, e_icle, e_ca, e_ca2, e_en, e_en0, e_sw, e_lk0, e_lk, e_dup, e_dup2, e_pop, e_ci, e_cj, e_cd, e_cr, e_c0, e_gf, e_gf2, e_gf3, e_pf, e_pf2, e_f0, e_f1, e_f2, e_f20, e_len, e_len2, e_al, e_al2, e_al3, e_alJ, e_alJ2, e_alJ3, e_alA, e_alA2, e_alA3, e_as, e_as2, e_as3, e_asB, e_asB2, e_asJ, e_asJ2, e_asJ3, e_asA, e_asA2, e_asA3, e_new, e_na, e_na2, e_cat0, e_cat1, e_tk0, e_tk1, e_tk2, e_tk3, e_tk4, e_tk5, e_tk6, e_tk7, e_tk8, e_cS, e_cS2, e_cI_0, e_cI_1, e_cI_2, e_cI_3, e_cI_4, e_cI_5, e_cI2, e_cV_0, e_cV_1, e_cV_2, e_cV_3, e_cV_4, e_cV_5, e_cV_6, e_cV_7, e_cV2, e_cV3, e_oi, e_cp, e_r0, e_r1, e_r2, e_r3, e_r4, e_r5, e_r6, e_r60, e_r7, e_W1, e_W2, e_A1, e_A2, e_Wg, e_Ag, e_rf0, e_rf1, e_len0, e_len1, e_vl0, e_vl1, z00, z10, z11, ↓reduceIte, List.getElem?_cons_zero, List.getElem?_cons_succ, List.set_cons_zero, List.set_cons_succ, and_true, true_and, and_self, or_true, true_or, or_false, false_or, Nat.reduceAdd, Nat.reduceSub, Nat.reduceLT, Nat.reduceLeDiff, Nat.reduceEqDiff, Nat.reduceBEq, beq_self_eq_true, Bool.or_false, Bool.false_or, Bool.or_true, Bool.true_or, not_true, not_false_eq_true, reduceCtorEq, s1189_0, s1189_1, s1189_4, s1189_7, s1189_10, s1189_11, s1189_14, s1189_17, s1189_18, s1189_19, s1189_22, s1189_25, s1189_26, s1189_27, s1189_30, s1189_31, hX, ux, gp, up, hd, hc, cal (n656 _) (e _), hb]
