/-! ===== the reference cuts its tape ===== -/
theorem eTk_gt (b : Nat → Int32) {L k : Nat} (h : k < L) : k < eTk b L k := by
  unfold eTk
  split
  · split
    · have : 1 ≤ eT1 b k := by unfold eT1; split <;> (try split) <;> (try split) <;> decide
      omega
    · rename_i h1 h2
      rw [show L - k = (L - (k + 1)) + 1 by omega, eWN, if_neg h2]
      have := eWN_b b (nI 0) (L - (k + 1)) (k + 1)
      omega
  · rename_i h1
    rw [show L - k = (L - (k + 1)) + 1 by omega, eWN, if_neg n1z, if_neg h1]
    have := eWN_b b (nI 1) (L - (k + 1)) (k + 1)
    split <;> omega
theorem kdN_l (b : Nat → Int32) (f len z : Nat) : ∀ m j, kdN b f len z m j = z ∨ (txt (kdN b f len z m j)).length = len
  | 0, _ => .inl rfl
  | m + 1, j => by
    rw [kdN]
    split
    · exact kdN_l b f len z m (j + 1)
    · rename_i h
      refine .inr ?_
      unfold spO at h
      by_cases q : (txt j).length = len
      · exact q
      · rw [if_neg q] at h
        exact absurd rfl h
theorem kO_42 (b : Nat → Int32) (L f : Nat) : ¬ kO b L f (eTk b L f) = 42 := by
  intro h
  unfold kO at h
  by_cases q : L ≤ f
  · rw [if_pos q] at h
    exact absurd h (by decide)
  · rw [if_neg q] at h
    have hg := eTk_gt b (show f < L by omega)
    have hz : ∀ len, 1 ≤ len → ¬ kdN b f len (kFb b f) 47 0 = 42 := fun len hl z => by
      rcases kdN_l b f len (kFb b f) 47 0 with r | r
      · rw [z] at r
        unfold kFb at r
        split at r <;> exact absurd r (by decide)
      · rw [z] at r
        have : (txt 42).length = 0 := rfl
        omega
    split at h
    · split at h
      · exact hz _ (by omega) h
      · split at h
        · exact hz _ (by omega) h
        · exact absurd h (by decide)
    · split at h <;> exact absurd h (by decide)
theorem kdT_42 (b : Nat → Int32) (L i : Nat) : ¬ kdT b L i = 42 := by
  unfold kdT
  split
  · split <;> decide
  · exact kO_42 b L _
theorem kR_9 : ∀ k, k < 47 → ¬ k = 42 → ¬ k = 45 → ¬ k = 46 → kR k < 900 := by decide +kernel
theorem kO_45 {b : Nat → Int32} {L f : Nat} (h : ¬ kO b L f (eTk b L f) = 45) : f < L := Nat.lt_of_not_le (fun z => h (if_pos z))
theorem kdT_45 {b : Nat → Int32} {L i : Nat} (h : ¬ kdT b L i = 45) : frT b L i < L := by
  refine kO_45 (b := b) (fun z => h ?_)
  unfold kdT
  rw [← cuT_s, z]
  split <;> rfl
theorem rb_1 {d : Nat} {x : Int32} {σ : mxS} {M tp L c L0 : Nat} {tb xs : Nat → Int32} (H : mcC σ M tp L c L0 tb xs) {kf ff nf ro me : Nat → Int32} (hd : 1 ≤ d) {Q : Option Value ⊕ Nat → mxS → Prop} : ∀ m k, k + m = L → ∀ {R : Prop}, WP d 1550 37 [some (.ref M), some (.int (nI (eBN (bM tb L) m k))), some (.int x)] [] (mcW σ c kf ff nf ro me) Q = R → WP d 1550 11 [some (.ref M), some (.int (nI k)), some (.int x)] [] (mcW σ c kf ff nf ro me) Q = R := by
  have HS := mc_H H kf ff nf ro me
  obtain ⟨m0, m3, fs, gM⟩ := mc_M H kf ff nf ro me
  obtain ⟨⟨m0, m3, fs, hM⟩, hT, ⟨uM, uT, hc1, hc2⟩, ⟨oM, oT⟩, hL, hB, hK⟩ := id H; obtain ⟨b0, b1, b2, b3, b4⟩ := mc_b hc1 hc2
  intro m
  induction m with
  | zero =>
    intro k hk R e
    have hk1 : k < 2 ^ 31 := by omega
    have hb : bM tb L k = -1 := if_neg (by omega)
    have h1 : ¬ (-1 : Int32) = nI 32 := by decide
    have h2 : ¬ (-1 : Int32) = nI 10 := by decide
    conv => lhs; rw [WP_eq, s1550_11]
    simp only [WP_eq, e_go, e_none, e_ite, e_thr0, e_ret, e_thr, e_call, e_Kv, e_Kn, e_Kx, e_K2, e_K20, e_at0, e_s1_0, e_s2_0, e_at1, e_s1_1, e_s2_1, e_at2, e_s1_2, e_s2_2, e_at3, e_s1_3, e_s2_3, e_at4, e_s1_4, e_s2_4, e_at5, e_s1_5, e_s2_5, e_at6, e_s1_6, e_s2_6, e_at7, e_s1_7, e_s2_7, e_at8, e_s1_8, e_s2_8, e_at9, e_s1_9, e_s2_9, e_at10, e_s1_10, e_s2_10, e_at11, e_s1_11, e_s2_11, e_at12, e_s1_12, e_s2_12, e_at13, e_s1_13, e_s2_13, e_kn, e_ki, e_kj, e_kd, e_kr, e_k0, e_lI, e_lJ, e_lD, e_lA, e_lA0, e_sI, e_sJ, e_sD, e_sA, e_sA0, e_inc, e_I2, e_I2z, e_I1, e_I2J, e_J2I, e_I2D, e_J2, e_lcmp, e_dcmp, e_ddiv, e_ifeq, e_iceq, e_ifne, e_icne, e_iflt, e_iclt, e_ifge, e_icge, e_ifgt, e_icgt, e_ifle, e_icle, e_ca, e_ca2, e_en, e_en0, e_sw, e_lk0, e_lk, e_dup, e_dup2, e_pop, e_ci, e_cj, e_cd, e_cr, e_c0, e_gf, e_gf2, e_gf3, e_pf, e_pf2, e_f0, e_f1, e_f2, e_f20, e_len, e_len2, e_al, e_al2, e_al3, e_alJ, e_alJ2, e_alJ3, e_alA, e_alA2, e_alA3, e_as, e_as2, e_as3, e_asB, e_asB2, e_asJ, e_asJ2, e_asJ3, e_asA, e_asA2, e_asA3, e_new, e_na, e_na2, e_cat0, e_cat1, e_tk0, e_tk1, e_tk2, e_tk3, e_tk4, e_tk5, e_tk6, e_tk7, e_tk8, e_cS, e_cS2, e_cI_0, e_cI_1, e_cI_2, e_cI_3, e_cI_4, e_cI_5, e_cI2, e_cV_0, e_cV_1, e_cV_2, e_cV_3, e_cV_4, e_cV_5, e_cV_6, e_cV_7, e_cV2, e_cV3, e_oi, e_cp, e_r0, e_r1, e_r2, e_r3, e_r4, e_r5, e_r6, e_r60, e_r7, e_W1, e_W2, e_A1, e_A2, e_Wg, e_Ag, e_rf0, e_rf1, e_len0, e_len1, e_vl0, e_vl1, z00, z10, z11, ↓reduceIte, List.getElem?_cons_zero, List.getElem?_cons_succ, List.set_cons_zero, List.set_cons_succ, and_true, true_and, and_self, or_true, true_or, or_false, false_or, Nat.reduceAdd, Nat.reduceSub, Nat.reduceLT, Nat.reduceLeDiff, Nat.reduceEqDiff, Nat.reduceBEq, beq_self_eq_true, Bool.or_false, Bool.false_or, Bool.or_true, Bool.true_or, not_true, not_false_eq_true, reduceCtorEq, s1550_12, s1550_13, s1550_16, s1550_18, s1550_21, s1550_22, s1550_23, s1550_26, s1550_28, s1550_31, s1550_34, gM, uM, mc_n, hd, cal (n1547 _ _) (r_byte (d := d - 1) HS hk1), hb, h1, h2]
    exact stk e
  | succ m ih =>
    intro k hk R e
    have hk1 : k < 2 ^ 31 := by omega
    rw [eBN] at e
    by_cases h1 : bM tb L k = nI 32
    · have hb : isBl (bM tb L k) = nI 1 := if_pos h1
      rw [if_neg (by rw [hb]; exact n1z)] at e
      have e2 := ih (k + 1) (by omega) e
      conv => lhs; rw [WP_eq, s1550_11]
      simp only [WP_eq, e_go, e_none, e_ite, e_thr0, e_ret, e_thr, e_call, e_Kv, e_Kn, e_Kx, e_K2, e_K20, e_at0, e_s1_0, e_s2_0, e_at1, e_s1_1, e_s2_1, e_at2, e_s1_2, e_s2_2, e_at3, e_s1_3, e_s2_3, e_at4, e_s1_4, e_s2_4, e_at5, e_s1_5, e_s2_5, e_at6, e_s1_6, e_s2_6, e_at7, e_s1_7, e_s2_7, e_at8, e_s1_8, e_s2_8, e_at9, e_s1_9, e_s2_9, e_at10, e_s1_10, e_s2_10, e_at11, e_s1_11, e_s2_11, e_at12, e_s1_12, e_s2_12, e_at13, e_s1_13, e_s2_13, e_kn, e_ki, e_kj, e_kd, e_kr, e_k0, e_lI, e_lJ, e_lD, e_lA, e_lA0, e_sI, e_sJ, e_sD, e_sA, e_sA0, e_inc, e_I2, e_I2z, e_I1, e_I2J, e_J2I, e_I2D, e_J2, e_lcmp, e_dcmp, e_ddiv, e_ifeq, e_iceq, e_ifne, e_icne, e_iflt, e_iclt, e_ifge, e_icge, e_ifgt, e_icgt, e_ifle, e_icle, e_ca, e_ca2, e_en, e_en0, e_sw, e_lk0, e_lk, e_dup, e_dup2, e_pop, e_ci, e_cj, e_cd, e_cr, e_c0, e_gf, e_gf2, e_gf3, e_pf, e_pf2, e_f0, e_f1, e_f2, e_f20, e_len, e_len2, e_al, e_al2, e_al3, e_alJ, e_alJ2, e_alJ3, e_alA, e_alA2, e_alA3, e_as, e_as2, e_as3, e_asB, e_asB2, e_asJ, e_asJ2, e_asJ3, e_asA, e_asA2, e_asA3, e_new, e_na, e_na2, e_cat0, e_cat1, e_tk0, e_tk1, e_tk2, e_tk3, e_tk4, e_tk5, e_tk6, e_tk7, e_tk8, e_cS, e_cS2, e_cI_0, e_cI_1, e_cI_2, e_cI_3, e_cI_4, e_cI_5, e_cI2, e_cV_0, e_cV_1, e_cV_2, e_cV_3, e_cV_4, e_cV_5, e_cV_6, e_cV_7, e_cV2, e_cV3, e_oi, e_cp, e_r0, e_r1, e_r2, e_r3, e_r4, e_r5, e_r6, e_r60, e_r7, e_W1, e_W2, e_A1, e_A2, e_Wg, e_Ag, e_rf0, e_rf1, e_len0, e_len1, e_vl0, e_vl1, z00, z10, z11, ↓reduceIte, List.getElem?_cons_zero, List.getElem?_cons_succ, List.set_cons_zero, List.set_cons_succ, and_true, true_and, and_self, or_true, true_or, or_false, false_or, Nat.reduceAdd, Nat.reduceSub, Nat.reduceLT, Nat.reduceLeDiff, Nat.reduceEqDiff, Nat.reduceBEq, beq_self_eq_true, Bool.or_false, Bool.false_or, Bool.or_true, Bool.true_or, not_true, not_false_eq_true, reduceCtorEq, s1550_12, s1550_13, s1550_16, s1550_18, s1550_21, s1550_22, s1550_23, s1550_26, s1550_28, s1550_31, s1550_34, gM, uM, mc_n, hd, cal (n1547 _ _) (r_byte (d := d - 1) HS hk1), h1, nIi]
      exact stk e2
    · by_cases h2 : bM tb L k = nI 10
      · have hb : isBl (bM tb L k) = nI 1 := (if_neg h1).trans (if_pos h2)
        have h3 : ¬ nI 10 = nI 32 := by decide
        rw [if_neg (by rw [hb]; exact n1z)] at e
        have e2 := ih (k + 1) (by omega) e
        conv => lhs; rw [WP_eq, s1550_11]
        simp only [WP_eq, e_go, e_none, e_ite, e_thr0, e_ret, e_thr, e_call, e_Kv, e_Kn, e_Kx, e_K2, e_K20, e_at0, e_s1_0, e_s2_0, e_at1, e_s1_1, e_s2_1, e_at2, e_s1_2, e_s2_2, e_at3, e_s1_3, e_s2_3, e_at4, e_s1_4, e_s2_4, e_at5, e_s1_5, e_s2_5, e_at6, e_s1_6, e_s2_6, e_at7, e_s1_7, e_s2_7, e_at8, e_s1_8, e_s2_8, e_at9, e_s1_9, e_s2_9, e_at10, e_s1_10, e_s2_10, e_at11, e_s1_11, e_s2_11, e_at12, e_s1_12, e_s2_12, e_at13, e_s1_13, e_s2_13, e_kn, e_ki, e_kj, e_kd, e_kr, e_k0, e_lI, e_lJ, e_lD, e_lA, e_lA0, e_sI, e_sJ, e_sD, e_sA, e_sA0, e_inc, e_I2, e_I2z, e_I1, e_I2J, e_J2I, e_I2D, e_J2, e_lcmp, e_dcmp, e_ddiv, e_ifeq, e_iceq, e_ifne, e_icne, e_iflt, e_iclt, e_ifge, e_icge, e_ifgt, e_icgt, e_ifle, e_icle, e_ca, e_ca2, e_en, e_en0, e_sw, e_lk0, e_lk, e_dup, e_dup2, e_pop, e_ci, e_cj, e_cd, e_cr, e_c0, e_gf, e_gf2, e_gf3, e_pf, e_pf2, e_f0, e_f1, e_f2, e_f20, e_len, e_len2, e_al, e_al2, e_al3, e_alJ, e_alJ2, e_alJ3, e_alA, e_alA2, e_alA3, e_as, e_as2, e_as3, e_asB, e_asB2, e_asJ, e_asJ2, e_asJ3, e_asA, e_asA2, e_asA3, e_new, e_na, e_na2, e_cat0, e_cat1, e_tk0, e_tk1, e_tk2, e_tk3, e_tk4, e_tk5, e_tk6, e_tk7, e_tk8, e_cS, e_cS2, e_cI_0, e_cI_1, e_cI_2, e_cI_3, e_cI_4, e_cI_5, e_cI2, e_cV_0, e_cV_1, e_cV_2, e_cV_3, e_cV_4, e_cV_5, e_cV_6, e_cV_7, e_cV2, e_cV3, e_oi, e_cp, e_r0, e_r1, e_r2, e_r3, e_r4, e_r5, e_r6, e_r60, e_r7, e_W1, e_W2, e_A1, e_A2, e_Wg, e_Ag, e_rf0, e_rf1, e_len0, e_len1, e_vl0, e_vl1, z00, z10, z11, ↓reduceIte, List.getElem?_cons_zero, List.getElem?_cons_succ, List.set_cons_zero, List.set_cons_succ, and_true, true_and, and_self, or_true, true_or, or_false, false_or, Nat.reduceAdd, Nat.reduceSub, Nat.reduceLT, Nat.reduceLeDiff, Nat.reduceEqDiff, Nat.reduceBEq, beq_self_eq_true, Bool.or_false, Bool.false_or, Bool.or_true, Bool.true_or, not_true, not_false_eq_true, reduceCtorEq, s1550_12, s1550_13, s1550_16, s1550_18, s1550_21, s1550_22, s1550_23, s1550_26, s1550_28, s1550_31, s1550_34, gM, uM, mc_n, hd, cal (n1547 _ _) (r_byte (d := d - 1) HS hk1), h3, h2, nIi]
        exact stk e2
      · have hb : isBl (bM tb L k) = nI 0 := (if_neg h1).trans (if_neg h2)
        rw [if_pos hb] at e
        conv => lhs; rw [WP_eq, s1550_11]
        simp only [WP_eq, e_go, e_none, e_ite, e_thr0, e_ret, e_thr, e_call, e_Kv, e_Kn, e_Kx, e_K2, e_K20, e_at0, e_s1_0, e_s2_0, e_at1, e_s1_1, e_s2_1, e_at2, e_s1_2, e_s2_2, e_at3, e_s1_3, e_s2_3, e_at4, e_s1_4, e_s2_4, e_at5, e_s1_5, e_s2_5, e_at6, e_s1_6, e_s2_6, e_at7, e_s1_7, e_s2_7, e_at8, e_s1_8, e_s2_8, e_at9, e_s1_9, e_s2_9, e_at10, e_s1_10, e_s2_10, e_at11, e_s1_11, e_s2_11, e_at12, e_s1_12, e_s2_12, e_at13, e_s1_13, e_s2_13, e_kn, e_ki, e_kj, e_kd, e_kr, e_k0, e_lI, e_lJ, e_lD, e_lA, e_lA0, e_sI, e_sJ, e_sD, e_sA, e_sA0, e_inc, e_I2, e_I2z, e_I1, e_I2J, e_J2I, e_I2D, e_J2, e_lcmp, e_dcmp, e_ddiv, e_ifeq, e_iceq, e_ifne, e_icne, e_iflt, e_iclt, e_ifge, e_icge, e_ifgt, e_icgt, e_ifle, e_icle, e_ca, e_ca2, e_en, e_en0, e_sw, e_lk0, e_lk, e_dup, e_dup2, e_pop, e_ci, e_cj, e_cd, e_cr, e_c0, e_gf, e_gf2, e_gf3, e_pf, e_pf2, e_f0, e_f1, e_f2, e_f20, e_len, e_len2, e_al, e_al2, e_al3, e_alJ, e_alJ2, e_alJ3, e_alA, e_alA2, e_alA3, e_as, e_as2, e_as3, e_asB, e_asB2, e_asJ, e_asJ2, e_asJ3, e_asA, e_asA2, e_asA3, e_new, e_na, e_na2, e_cat0, e_cat1, e_tk0, e_tk1, e_tk2, e_tk3, e_tk4, e_tk5, e_tk6, e_tk7, e_tk8, e_cS, e_cS2, e_cI_0, e_cI_1, e_cI_2, e_cI_3, e_cI_4, e_cI_5, e_cI2, e_cV_0, e_cV_1, e_cV_2, e_cV_3, e_cV_4, e_cV_5, e_cV_6, e_cV_7, e_cV2, e_cV3, e_oi, e_cp, e_r0, e_r1, e_r2, e_r3, e_r4, e_r5, e_r6, e_r60, e_r7, e_W1, e_W2, e_A1, e_A2, e_Wg, e_Ag, e_rf0, e_rf1, e_len0, e_len1, e_vl0, e_vl1, z00, z10, z11, ↓reduceIte, List.getElem?_cons_zero, List.getElem?_cons_succ, List.set_cons_zero, List.set_cons_succ, and_true, true_and, and_self, or_true, true_or, or_false, false_or, Nat.reduceAdd, Nat.reduceSub, Nat.reduceLT, Nat.reduceLeDiff, Nat.reduceEqDiff, Nat.reduceBEq, beq_self_eq_true, Bool.or_false, Bool.false_or, Bool.or_true, Bool.true_or, not_true, not_false_eq_true, reduceCtorEq, s1550_12, s1550_13, s1550_16, s1550_18, s1550_21, s1550_22, s1550_23, s1550_26, s1550_28, s1550_31, s1550_34, gM, uM, mc_n, hd, cal (n1547 _ _) (r_byte (d := d - 1) HS hk1), h1, h2]
        exact stk e

def kfT (b : Nat → Int32) (L n : Nat) (kf : Nat → Int32) : Nat → Int32 := upto n (fun i => nI (kR (kdT b L i))) kf
def nfT (b : Nat → Int32) (L : Nat) : Nat → (Nat → Int32) → Nat → Int32
  | 0, nf => nf
  | n + 1, nf => nA b L (frT b L n) n (nfT b L n nf)
def zeT (n : Nat) (ro : Nat → Int32) : Nat → Int32 := upto n (fun _ => nI 0) ro
theorem va2 {α : Type} (f : Nat → α) (t : Nat) (x y : α) : va_up (va_up f t x) t y = va_up f t y := by
  funext j
  unfold va_up
  split <;> rfl
theorem rc_s {d t : Nat} {σ : mxS} {M tp L c L0 : Nat} {tb xs : Nat → Int32} (H : mcC σ M tp L c L0 tb xs) {kf ff nf ro me : Nat → Int32} (ht : t ≤ 400) (hd : 7 ≤ d) {Q : Option Value ⊕ Nat → mxS → Prop} {R : Prop} (e : if kdT (bM tb L) L t = 45 then Q (.inl none) (mcW σ c (va_up kf t (nI (kR (kdT (bM tb L) L t)))) (va_up ff t (nI (frT (bM tb L) L t))) (nA (bM tb L) L (frT (bM tb L) L t) t nf) (va_up ro t (nI 0)) (va_up me t (nI 0))) = R else if kdT (bM tb L) L t = 46 then Q (.inl none) (mcW σ c (va_up kf t (nI (kR (kdT (bM tb L) L t)))) (va_up ff t (nI (frT (bM tb L) L t))) (nA (bM tb L) L (frT (bM tb L) L t) t nf) (va_up ro t (nI 0)) (va_up me t (nI 0))) = R else WP d 1550 4 [some (.ref M), some (.int (nI (cuT (bM tb L) L (t + 1)))), some (.int (nI (t + 1)))] [] (mcW σ c (va_up kf t (nI (kR (kdT (bM tb L) L t)))) (va_up ff t (nI (frT (bM tb L) L t))) (nA (bM tb L) L (frT (bM tb L) L t) t nf) (va_up ro t (nI 0)) (va_up me t (nI 0))) Q = R) : WP d 1550 4 [some (.ref M), some (.int (nI (cuT (bM tb L) L t))), some (.int (nI t))] [] (mcW σ c kf ff nf ro me) Q = R := by
  obtain ⟨m0, m3, fs, gM0⟩ := mc_M H kf ff nf ro me
  have gM : ∀ kf' ff' nf' ro' me', (mcW σ c kf' ff' nf' ro' me').1 M = _ := fun kf' ff' nf' ro' me' => (mc_o σ c kf' ff' nf' ro' me' H.2.2.2.1.1).trans ((mc_o σ c kf ff nf ro me H.2.2.2.1.1).symm.trans gM0)
  have H0 := H
  obtain ⟨⟨m0, m3, fs, hM⟩, hT, ⟨uM, uT, hc1, hc2⟩, ⟨oM, oT⟩, hL, hB, hK⟩ := id H; obtain ⟨b0, b1, b2, b3, b4⟩ := mc_b hc1 hc2
  have hd1 : 1 ≤ d := by omega
  have hc : ¬ nI 400 < nI t := fun z => absurd ((nI_ltI (by omega) (by omega)).mp z) (by omega)
  have h4 : mxidx (nI t) 401 = some t := mxidx_nI (by omega) (by decide)
  have c1 := cuT_b (bM tb L) L t
  obtain ⟨c2, c3⟩ := frT_b (bM tb L) L t
  have c4 := cuT_b (bM tb L) L (t + 1)
  have f1 : eBN (bM tb L) (L - cuT (bM tb L) L t) (cuT (bM tb L) L t) = frT (bM tb L) L t := rfl
  have e1 : WP d 1550 37 [some (.ref M), some (.int (nI (frT (bM tb L) L t))), some (.int (nI t))] [] (mcW σ c kf ff nf ro me) Q = R := by
    have ek := fun ff' ro' me' (Q : Option Value ⊕ Nat → mxS → Prop) => r_kind (Q := Q) (d := d - 1) (a := frT (bM tb L) L t) (ix := t) (kf := kf) (ff := ff') (nf := nf) (ro := ro') (me := me') H0 (by omega) c2 ht
    have kA_e : kA (bM tb L) L (frT (bM tb L) L t) = kO (bM tb L) L (frT (bM tb L) L t) (cuT (bM tb L) L (t + 1)) := rfl
    have kb := kO_b (bM tb L) L (frT (bM tb L) L t) (cuT (bM tb L) L (t + 1))
    have kl := kR_lt _ kb
    have n2 : ¬ kdT (bM tb L) L t = 45 → va_up nf t (nI (cuT (bM tb L) L (t + 1) - frT (bM tb L) L t)) = nA (bM tb L) L (frT (bM tb L) L t) t nf := fun z => (if_neg (by have := kdT_45 z; omega)).symm
    have n3 : nI (frT (bM tb L) L t) + nI (cuT (bM tb L) L (t + 1) - frT (bM tb L) L t) = nI (cuT (bM tb L) L (t + 1)) := by
      rw [nI_add, Nat.add_sub_cancel' c3]
    rw [kA_e] at ek
    by_cases q : t = 400
    · subst q
      have h400 : ¬ (nI 400 = nI 400) = False := by simp
      by_cases r : kO (bM tb L) L (frT (bM tb L) L 400) (cuT (bM tb L) L (400 + 1)) = 45
      · have u : kdT (bM tb L) L 400 = 45 := (if_pos rfl).trans (if_pos r)
        rw [u] at e
        rw [r] at ek
        have k9 : nI (kR 45) = nI 900 := rfl
        have k10 : ¬ nI 900 < nI 900 := by decide
        rw [k9] at ek e
        simp only [Nat.reduceEqDiff, ↓reduceIte] at e
        rw [← e]
        conv => lhs; rw [WP_eq, s1550_37]
        simp only [WP_eq, e_go, e_none, e_ite, e_thr0, e_ret, e_thr, e_call, e_Kv, e_Kn, e_Kx, e_K2, e_K20, e_at0, e_s1_0, e_s2_0, e_at1, e_s1_1, e_s2_1, e_at2, e_s1_2, e_s2_2, e_at3, e_s1_3, e_s2_3, e_at4, e_s1_4, e_s2_4, e_at5, e_s1_5, e_s2_5, e_at6, e_s1_6, e_s2_6, e_at7, e_s1_7, e_s2_7, e_at8, e_s1_8, e_s2_8, e_at9, e_s1_9, e_s2_9, e_at10, e_s1_10, e_s2_10, e_at11, e_s1_11, e_s2_11, e_at12, e_s1_12, e_s2_12, e_at13, e_s1_13, e_s2_13, e_kn, e_ki, e_kj, e_kd, e_kr, e_k0, e_lI, e_lJ, e_lD, e_lA, e_lA0, e_sI, e_sJ, e_sD, e_sA, e_sA0, e_inc, e_I2, e_I2z, e_I1, e_I2J, e_J2I, e_I2D, e_J2, e_lcmp, e_dcmp, e_ddiv, e_ifeq, e_iceq, e_ifne, e_icne, e_iflt, e_iclt, e_ifge, e_icge, e_ifgt, e_icgt, e_ifle, e_icle, e_ca, e_ca2, e_en, e_en0, e_sw, e_lk0, e_lk, e_dup, e_dup2, e_pop, e_ci, e_cj, e_cd, e_cr, e_c0, e_gf, e_gf2, e_gf3, e_pf, e_pf2, e_f0, e_f1, e_f2, e_f20, e_len, e_len2, e_al, e_al2, e_al3, e_alJ, e_alJ2, e_alJ3, e_alA, e_alA2, e_alA3, e_as, e_as2, e_as3, e_asB, e_asB2, e_asJ, e_asJ2, e_asJ3, e_asA, e_asA2, e_asA3, e_new, e_na, e_na2, e_cat0, e_cat1, e_tk0, e_tk1, e_tk2, e_tk3, e_tk4, e_tk5, e_tk6, e_tk7, e_tk8, e_cS, e_cS2, e_cI_0, e_cI_1, e_cI_2, e_cI_3, e_cI_4, e_cI_5, e_cI2, e_cV_0, e_cV_1, e_cV_2, e_cV_3, e_cV_4, e_cV_5, e_cV_6, e_cV_7, e_cV2, e_cV3, e_oi, e_cp, e_r0, e_r1, e_r2, e_r3, e_r4, e_r5, e_r6, e_r60, e_r7, e_W1, e_W2, e_A1, e_A2, e_Wg, e_Ag, e_rf0, e_rf1, e_len0, e_len1, e_vl0, e_vl1, z00, z10, z11, ↓reduceIte, List.getElem?_cons_zero, List.getElem?_cons_succ, List.set_cons_zero, List.set_cons_succ, and_true, true_and, and_self, or_true, true_or, or_false, false_or, Nat.reduceAdd, Nat.reduceSub, Nat.reduceLT, Nat.reduceLeDiff, Nat.reduceEqDiff, Nat.reduceBEq, beq_self_eq_true, Bool.or_false, Bool.false_or, Bool.or_true, Bool.true_or, not_true, not_false_eq_true, reduceCtorEq, s1550_38, s1550_41, s1550_42, s1550_43, s1550_44, s1550_45, s1550_48, s1550_49, s1550_50, s1550_51, s1550_52, s1550_55, s1550_56, s1550_57, s1550_58, s1550_59, s1550_62, s1550_63, s1550_64, s1550_65, s1550_66, s1550_69, s1550_70, s1550_71, s1550_74, s1550_77, s1550_78, s1550_81, s1550_82, s1550_83, s1550_86, s1550_89, s1550_90, s1550_93, s1550_94, s1550_97, s1550_98, s1550_99, s1550_102, s1550_103, s1550_104, s1550_107, s1550_110, s1550_111, s1550_112, s1550_113, s1550_116, s1550_117, s1550_118, s1550_119, s1550_120, s1550_123, gM, uM, mc_n, mc_g0, mc_g1, mc_g2, mc_g3, mc_g4, mc_w0, mc_w1, mc_w2, mc_w3, mc_w4, b0, b1, b2, b3, b4, hd1, h4, cal (n1548 _ _ _) (ek _ _ _ _), va_up_self, k10, eq_self]
      · have u : kdT (bM tb L) L 400 = 46 := (if_pos rfl).trans (if_neg r)
        rw [u] at e
        have k9 : nI (kR 46) = nI 901 := rfl
        have k8 : ¬ nI (kR (kO (bM tb L) L (frT (bM tb L) L 400) (cuT (bM tb L) L (400 + 1)))) = nI 900 := fun z => r (kR_inj _ kb 45 (by decide) ((nI_eq (by omega) (by decide)).mp z))
        have k10 : ¬ nI 901 < nI 900 := by decide
        rw [k9] at e
        simp only [Nat.reduceEqDiff, ↓reduceIte] at e
        rw [← e]
        conv => lhs; rw [WP_eq, s1550_37]
        simp only [WP_eq, e_go, e_none, e_ite, e_thr0, e_ret, e_thr, e_call, e_Kv, e_Kn, e_Kx, e_K2, e_K20, e_at0, e_s1_0, e_s2_0, e_at1, e_s1_1, e_s2_1, e_at2, e_s1_2, e_s2_2, e_at3, e_s1_3, e_s2_3, e_at4, e_s1_4, e_s2_4, e_at5, e_s1_5, e_s2_5, e_at6, e_s1_6, e_s2_6, e_at7, e_s1_7, e_s2_7, e_at8, e_s1_8, e_s2_8, e_at9, e_s1_9, e_s2_9, e_at10, e_s1_10, e_s2_10, e_at11, e_s1_11, e_s2_11, e_at12, e_s1_12, e_s2_12, e_at13, e_s1_13, e_s2_13, e_kn, e_ki, e_kj, e_kd, e_kr, e_k0, e_lI, e_lJ, e_lD, e_lA, e_lA0, e_sI, e_sJ, e_sD, e_sA, e_sA0, e_inc, e_I2, e_I2z, e_I1, e_I2J, e_J2I, e_I2D, e_J2, e_lcmp, e_dcmp, e_ddiv, e_ifeq, e_iceq, e_ifne, e_icne, e_iflt, e_iclt, e_ifge, e_icge, e_ifgt, e_icgt, e_ifle, e_icle, e_ca, e_ca2, e_en, e_en0, e_sw, e_lk0, e_lk, e_dup, e_dup2, e_pop, e_ci, e_cj, e_cd, e_cr, e_c0, e_gf, e_gf2, e_gf3, e_pf, e_pf2, e_f0, e_f1, e_f2, e_f20, e_len, e_len2, e_al, e_al2, e_al3, e_alJ, e_alJ2, e_alJ3, e_alA, e_alA2, e_alA3, e_as, e_as2, e_as3, e_asB, e_asB2, e_asJ, e_asJ2, e_asJ3, e_asA, e_asA2, e_asA3, e_new, e_na, e_na2, e_cat0, e_cat1, e_tk0, e_tk1, e_tk2, e_tk3, e_tk4, e_tk5, e_tk6, e_tk7, e_tk8, e_cS, e_cS2, e_cI_0, e_cI_1, e_cI_2, e_cI_3, e_cI_4, e_cI_5, e_cI2, e_cV_0, e_cV_1, e_cV_2, e_cV_3, e_cV_4, e_cV_5, e_cV_6, e_cV_7, e_cV2, e_cV3, e_oi, e_cp, e_r0, e_r1, e_r2, e_r3, e_r4, e_r5, e_r6, e_r60, e_r7, e_W1, e_W2, e_A1, e_A2, e_Wg, e_Ag, e_rf0, e_rf1, e_len0, e_len1, e_vl0, e_vl1, z00, z10, z11, ↓reduceIte, List.getElem?_cons_zero, List.getElem?_cons_succ, List.set_cons_zero, List.set_cons_succ, and_true, true_and, and_self, or_true, true_or, or_false, false_or, Nat.reduceAdd, Nat.reduceSub, Nat.reduceLT, Nat.reduceLeDiff, Nat.reduceEqDiff, Nat.reduceBEq, beq_self_eq_true, Bool.or_false, Bool.false_or, Bool.or_true, Bool.true_or, not_true, not_false_eq_true, reduceCtorEq, s1550_38, s1550_41, s1550_42, s1550_43, s1550_44, s1550_45, s1550_48, s1550_49, s1550_50, s1550_51, s1550_52, s1550_55, s1550_56, s1550_57, s1550_58, s1550_59, s1550_62, s1550_63, s1550_64, s1550_65, s1550_66, s1550_69, s1550_70, s1550_71, s1550_74, s1550_77, s1550_78, s1550_81, s1550_82, s1550_83, s1550_86, s1550_89, s1550_90, s1550_93, s1550_94, s1550_97, s1550_98, s1550_99, s1550_102, s1550_103, s1550_104, s1550_107, s1550_110, s1550_111, s1550_112, s1550_113, s1550_116, s1550_117, s1550_118, s1550_119, s1550_120, s1550_123, gM, uM, mc_n, mc_g0, mc_g1, mc_g2, mc_g3, mc_g4, mc_w0, mc_w1, mc_w2, mc_w3, mc_w4, b0, b1, b2, b3, b4, hd1, h4, cal (n1548 _ _ _) (ek _ _ _ _), va_up_self, va2, k8, k10, eq_self]
    · have u : kdT (bM tb L) L t = kO (bM tb L) L (frT (bM tb L) L t) (cuT (bM tb L) L (t + 1)) := if_neg q
      have q4 : (nI t = nI 400) = False := eq_false (fun z => q ((nI_eq (by omega) (by omega)).mp z))
      rw [← u] at ek kb kl
      by_cases r : kdT (bM tb L) L t = 45
      · rw [r] at e ek
        have k9 : nI (kR 45) = nI 900 := rfl
        have k10 : ¬ nI 900 < nI 900 := by decide
        rw [k9] at ek e
        simp only [Nat.reduceEqDiff, ↓reduceIte] at e
        rw [← e]
        conv => lhs; rw [WP_eq, s1550_37]
        simp only [WP_eq, e_go, e_none, e_ite, e_thr0, e_ret, e_thr, e_call, e_Kv, e_Kn, e_Kx, e_K2, e_K20, e_at0, e_s1_0, e_s2_0, e_at1, e_s1_1, e_s2_1, e_at2, e_s1_2, e_s2_2, e_at3, e_s1_3, e_s2_3, e_at4, e_s1_4, e_s2_4, e_at5, e_s1_5, e_s2_5, e_at6, e_s1_6, e_s2_6, e_at7, e_s1_7, e_s2_7, e_at8, e_s1_8, e_s2_8, e_at9, e_s1_9, e_s2_9, e_at10, e_s1_10, e_s2_10, e_at11, e_s1_11, e_s2_11, e_at12, e_s1_12, e_s2_12, e_at13, e_s1_13, e_s2_13, e_kn, e_ki, e_kj, e_kd, e_kr, e_k0, e_lI, e_lJ, e_lD, e_lA, e_lA0, e_sI, e_sJ, e_sD, e_sA, e_sA0, e_inc, e_I2, e_I2z, e_I1, e_I2J, e_J2I, e_I2D, e_J2, e_lcmp, e_dcmp, e_ddiv, e_ifeq, e_iceq, e_ifne, e_icne, e_iflt, e_iclt, e_ifge, e_icge, e_ifgt, e_icgt, e_ifle, e_icle, e_ca, e_ca2, e_en, e_en0, e_sw, e_lk0, e_lk, e_dup, e_dup2, e_pop, e_ci, e_cj, e_cd, e_cr, e_c0, e_gf, e_gf2, e_gf3, e_pf, e_pf2, e_f0, e_f1, e_f2, e_f20, e_len, e_len2, e_al, e_al2, e_al3, e_alJ, e_alJ2, e_alJ3, e_alA, e_alA2, e_alA3, e_as, e_as2, e_as3, e_asB, e_asB2, e_asJ, e_asJ2, e_asJ3, e_asA, e_asA2, e_asA3, e_new, e_na, e_na2, e_cat0, e_cat1, e_tk0, e_tk1, e_tk2, e_tk3, e_tk4, e_tk5, e_tk6, e_tk7, e_tk8, e_cS, e_cS2, e_cI_0, e_cI_1, e_cI_2, e_cI_3, e_cI_4, e_cI_5, e_cI2, e_cV_0, e_cV_1, e_cV_2, e_cV_3, e_cV_4, e_cV_5, e_cV_6, e_cV_7, e_cV2, e_cV3, e_oi, e_cp, e_r0, e_r1, e_r2, e_r3, e_r4, e_r5, e_r6, e_r60, e_r7, e_W1, e_W2, e_A1, e_A2, e_Wg, e_Ag, e_rf0, e_rf1, e_len0, e_len1, e_vl0, e_vl1, z00, z10, z11, ↓reduceIte, List.getElem?_cons_zero, List.getElem?_cons_succ, List.set_cons_zero, List.set_cons_succ, and_true, true_and, and_self, or_true, true_or, or_false, false_or, Nat.reduceAdd, Nat.reduceSub, Nat.reduceLT, Nat.reduceLeDiff, Nat.reduceEqDiff, Nat.reduceBEq, beq_self_eq_true, Bool.or_false, Bool.false_or, Bool.or_true, Bool.true_or, not_true, not_false_eq_true, reduceCtorEq, s1550_38, s1550_41, s1550_42, s1550_43, s1550_44, s1550_45, s1550_48, s1550_49, s1550_50, s1550_51, s1550_52, s1550_55, s1550_56, s1550_57, s1550_58, s1550_59, s1550_62, s1550_63, s1550_64, s1550_65, s1550_66, s1550_69, s1550_70, s1550_71, s1550_74, s1550_77, s1550_78, s1550_81, s1550_82, s1550_83, s1550_86, s1550_89, s1550_90, s1550_93, s1550_94, s1550_97, s1550_98, s1550_99, s1550_102, s1550_103, s1550_104, s1550_107, s1550_110, s1550_111, s1550_112, s1550_113, s1550_116, s1550_117, s1550_118, s1550_119, s1550_120, s1550_123, gM, uM, mc_n, mc_g0, mc_g1, mc_g2, mc_g3, mc_g4, mc_w0, mc_w1, mc_w2, mc_w3, mc_w4, b0, b1, b2, b3, b4, hd1, h4, cal (n1548 _ _ _) (ek _ _ _ _), va_up_self, k10, q4]
      · by_cases r2 : kdT (bM tb L) L t = 46
        · rw [r2] at e ek
          have k9 : nI (kR 46) = nI 901 := rfl
          have k10 : ¬ nI 901 < nI 900 := by decide
          rw [k9] at ek e
          simp only [Nat.reduceEqDiff, ↓reduceIte] at e
          rw [← e]
          conv => lhs; rw [WP_eq, s1550_37]
          simp only [WP_eq, e_go, e_none, e_ite, e_thr0, e_ret, e_thr, e_call, e_Kv, e_Kn, e_Kx, e_K2, e_K20, e_at0, e_s1_0, e_s2_0, e_at1, e_s1_1, e_s2_1, e_at2, e_s1_2, e_s2_2, e_at3, e_s1_3, e_s2_3, e_at4, e_s1_4, e_s2_4, e_at5, e_s1_5, e_s2_5, e_at6, e_s1_6, e_s2_6, e_at7, e_s1_7, e_s2_7, e_at8, e_s1_8, e_s2_8, e_at9, e_s1_9, e_s2_9, e_at10, e_s1_10, e_s2_10, e_at11, e_s1_11, e_s2_11, e_at12, e_s1_12, e_s2_12, e_at13, e_s1_13, e_s2_13, e_kn, e_ki, e_kj, e_kd, e_kr, e_k0, e_lI, e_lJ, e_lD, e_lA, e_lA0, e_sI, e_sJ, e_sD, e_sA, e_sA0, e_inc, e_I2, e_I2z, e_I1, e_I2J, e_J2I, e_I2D, e_J2, e_lcmp, e_dcmp, e_ddiv, e_ifeq, e_iceq, e_ifne, e_icne, e_iflt, e_iclt, e_ifge, e_icge, e_ifgt, e_icgt, e_ifle, e_icle, e_ca, e_ca2, e_en, e_en0, e_sw, e_lk0, e_lk, e_dup, e_dup2, e_pop, e_ci, e_cj, e_cd, e_cr, e_c0, e_gf, e_gf2, e_gf3, e_pf, e_pf2, e_f0, e_f1, e_f2, e_f20, e_len, e_len2, e_al, e_al2, e_al3, e_alJ, e_alJ2, e_alJ3, e_alA, e_alA2, e_alA3, e_as, e_as2, e_as3, e_asB, e_asB2, e_asJ, e_asJ2, e_asJ3, e_asA, e_asA2, e_asA3, e_new, e_na, e_na2, e_cat0, e_cat1, e_tk0, e_tk1, e_tk2, e_tk3, e_tk4, e_tk5, e_tk6, e_tk7, e_tk8, e_cS, e_cS2, e_cI_0, e_cI_1, e_cI_2, e_cI_3, e_cI_4, e_cI_5, e_cI2, e_cV_0, e_cV_1, e_cV_2, e_cV_3, e_cV_4, e_cV_5, e_cV_6, e_cV_7, e_cV2, e_cV3, e_oi, e_cp, e_r0, e_r1, e_r2, e_r3, e_r4, e_r5, e_r6, e_r60, e_r7, e_W1, e_W2, e_A1, e_A2, e_Wg, e_Ag, e_rf0, e_rf1, e_len0, e_len1, e_vl0, e_vl1, z00, z10, z11, ↓reduceIte, List.getElem?_cons_zero, List.getElem?_cons_succ, List.set_cons_zero, List.set_cons_succ, and_true, true_and, and_self, or_true, true_or, or_false, false_or, Nat.reduceAdd, Nat.reduceSub, Nat.reduceLT, Nat.reduceLeDiff, Nat.reduceEqDiff, Nat.reduceBEq, beq_self_eq_true, Bool.or_false, Bool.false_or, Bool.or_true, Bool.true_or, not_true, not_false_eq_true, reduceCtorEq, s1550_38, s1550_41, s1550_42, s1550_43, s1550_44, s1550_45, s1550_48, s1550_49, s1550_50, s1550_51, s1550_52, s1550_55, s1550_56, s1550_57, s1550_58, s1550_59, s1550_62, s1550_63, s1550_64, s1550_65, s1550_66, s1550_69, s1550_70, s1550_71, s1550_74, s1550_77, s1550_78, s1550_81, s1550_82, s1550_83, s1550_86, s1550_89, s1550_90, s1550_93, s1550_94, s1550_97, s1550_98, s1550_99, s1550_102, s1550_103, s1550_104, s1550_107, s1550_110, s1550_111, s1550_112, s1550_113, s1550_116, s1550_117, s1550_118, s1550_119, s1550_120, s1550_123, gM, uM, mc_n, mc_g0, mc_g1, mc_g2, mc_g3, mc_g4, mc_w0, mc_w1, mc_w2, mc_w3, mc_w4, b0, b1, b2, b3, b4, hd1, h4, cal (n1548 _ _ _) (ek _ _ _ _), va_up_self, k10, q4]
        · rw [if_neg r, if_neg r2, ← n2 r] at e
          have ek2 := ek
          have k9 := kR_9 _ kb (kdT_42 _ _ _) r r2
          have k10 : (nI (kR (kdT (bM tb L) L t)) < nI 900) = True := eq_true (nI_lt k9 (by decide))
          have n4 : nA (bM tb L) L (frT (bM tb L) L t) t nf = va_up nf t (nI (cuT (bM tb L) L (t + 1) - frT (bM tb L) L t)) := (n2 r).symm
          rw [n4] at ek
          conv => lhs; rw [WP_eq, s1550_37]
          simp only [WP_eq, e_go, e_none, e_ite, e_thr0, e_ret, e_thr, e_call, e_Kv, e_Kn, e_Kx, e_K2, e_K20, e_at0, e_s1_0, e_s2_0, e_at1, e_s1_1, e_s2_1, e_at2, e_s1_2, e_s2_2, e_at3, e_s1_3, e_s2_3, e_at4, e_s1_4, e_s2_4, e_at5, e_s1_5, e_s2_5, e_at6, e_s1_6, e_s2_6, e_at7, e_s1_7, e_s2_7, e_at8, e_s1_8, e_s2_8, e_at9, e_s1_9, e_s2_9, e_at10, e_s1_10, e_s2_10, e_at11, e_s1_11, e_s2_11, e_at12, e_s1_12, e_s2_12, e_at13, e_s1_13, e_s2_13, e_kn, e_ki, e_kj, e_kd, e_kr, e_k0, e_lI, e_lJ, e_lD, e_lA, e_lA0, e_sI, e_sJ, e_sD, e_sA, e_sA0, e_inc, e_I2, e_I2z, e_I1, e_I2J, e_J2I, e_I2D, e_J2, e_lcmp, e_dcmp, e_ddiv, e_ifeq, e_iceq, e_ifne, e_icne, e_iflt, e_iclt, e_ifge, e_icge, e_ifgt, e_icgt, e_ifle, e_icle, e_ca, e_ca2, e_en, e_en0, e_sw, e_lk0, e_lk, e_dup, e_dup2, e_pop, e_ci, e_cj, e_cd, e_cr, e_c0, e_gf, e_gf2, e_gf3, e_pf, e_pf2, e_f0, e_f1, e_f2, e_f20, e_len, e_len2, e_al, e_al2, e_al3, e_alJ, e_alJ2, e_alJ3, e_alA, e_alA2, e_alA3, e_as, e_as2, e_as3, e_asB, e_asB2, e_asJ, e_asJ2, e_asJ3, e_asA, e_asA2, e_asA3, e_new, e_na, e_na2, e_cat0, e_cat1, e_tk0, e_tk1, e_tk2, e_tk3, e_tk4, e_tk5, e_tk6, e_tk7, e_tk8, e_cS, e_cS2, e_cI_0, e_cI_1, e_cI_2, e_cI_3, e_cI_4, e_cI_5, e_cI2, e_cV_0, e_cV_1, e_cV_2, e_cV_3, e_cV_4, e_cV_5, e_cV_6, e_cV_7, e_cV2, e_cV3, e_oi, e_cp, e_r0, e_r1, e_r2, e_r3, e_r4, e_r5, e_r6, e_r60, e_r7, e_W1, e_W2, e_A1, e_A2, e_Wg, e_Ag, e_rf0, e_rf1, e_len0, e_len1, e_vl0, e_vl1, z00, z10, z11, ↓reduceIte, List.getElem?_cons_zero, List.getElem?_cons_succ, List.set_cons_zero, List.set_cons_succ, and_true, true_and, and_self, or_true, true_or, or_false, false_or, Nat.reduceAdd, Nat.reduceSub, Nat.reduceLT, Nat.reduceLeDiff, Nat.reduceEqDiff, Nat.reduceBEq, beq_self_eq_true, Bool.or_false, Bool.false_or, Bool.or_true, Bool.true_or, not_true, not_false_eq_true, reduceCtorEq, s1550_38, s1550_41, s1550_42, s1550_43, s1550_44, s1550_45, s1550_48, s1550_49, s1550_50, s1550_51, s1550_52, s1550_55, s1550_56, s1550_57, s1550_58, s1550_59, s1550_62, s1550_63, s1550_64, s1550_65, s1550_66, s1550_69, s1550_70, s1550_71, s1550_74, s1550_77, s1550_78, s1550_81, s1550_82, s1550_83, s1550_86, s1550_89, s1550_90, s1550_93, s1550_94, s1550_97, s1550_98, s1550_99, s1550_102, s1550_103, s1550_104, s1550_107, s1550_110, s1550_111, s1550_112, s1550_113, s1550_116, s1550_117, s1550_118, s1550_119, s1550_120, s1550_123, gM, uM, mc_n, mc_g0, mc_g1, mc_g2, mc_g3, mc_g4, mc_w0, mc_w1, mc_w2, mc_w3, mc_w4, b0, b1, b2, b3, b4, hd1, h4, cal (n1548 _ _ _) (ek _ _ _ _), va_up_self, k10, q4, n3, nIi]
          exact stk e
  have e2 := rb_1 (d := d) (x := nI t) (kf := kf) (ff := ff) (nf := nf) (ro := ro) (me := me) (Q := Q) H0 hd1 (L - cuT (bM tb L) L t) (cuT (bM tb L) L t) (by omega) (R := R) (by rw [f1]; exact e1)
  conv => lhs; rw [WP_eq, s1550_4]
  simp only [WP_eq, e_go, e_none, e_ite, e_thr0, e_ret, e_thr, e_call, e_Kv, e_Kn, e_Kx, e_K2, e_K20, e_at0, e_s1_0, e_s2_0, e_at1, e_s1_1, e_s2_1, e_at2, e_s1_2, e_s2_2, e_at3, e_s1_3, e_s2_3, e_at4, e_s1_4, e_s2_4, e_at5, e_s1_5, e_s2_5, e_at6, e_s1_6, e_s2_6, e_at7, e_s1_7, e_s2_7, e_at8, e_s1_8, e_s2_8, e_at9, e_s1_9, e_s2_9, e_at10, e_s1_10, e_s2_10, e_at11, e_s1_11, e_s2_11, e_at12, e_s1_12, e_s2_12, e_at13, e_s1_13, e_s2_13, e_kn, e_ki, e_kj, e_kd, e_kr, e_k0, e_lI, e_lJ, e_lD, e_lA, e_lA0, e_sI, e_sJ, e_sD, e_sA, e_sA0, e_inc, e_I2, e_I2z, e_I1, e_I2J, e_J2I, e_I2D, e_J2, e_lcmp, e_dcmp, e_ddiv, e_ifeq, e_iceq, e_ifne, e_icne, e_iflt, e_iclt, e_ifge, e_icge, e_ifgt, e_icgt, e_ifle, e_icle, e_ca, e_ca2, e_en, e_en0, e_sw, e_lk0, e_lk, e_dup, e_dup2, e_pop, e_ci, e_cj, e_cd, e_cr, e_c0, e_gf, e_gf2, e_gf3, e_pf, e_pf2, e_f0, e_f1, e_f2, e_f20, e_len, e_len2, e_al, e_al2, e_al3, e_alJ, e_alJ2, e_alJ3, e_alA, e_alA2, e_alA3, e_as, e_as2, e_as3, e_asB, e_asB2, e_asJ, e_asJ2, e_asJ3, e_asA, e_asA2, e_asA3, e_new, e_na, e_na2, e_cat0, e_cat1, e_tk0, e_tk1, e_tk2, e_tk3, e_tk4, e_tk5, e_tk6, e_tk7, e_tk8, e_cS, e_cS2, e_cI_0, e_cI_1, e_cI_2, e_cI_3, e_cI_4, e_cI_5, e_cI2, e_cV_0, e_cV_1, e_cV_2, e_cV_3, e_cV_4, e_cV_5, e_cV_6, e_cV_7, e_cV2, e_cV3, e_oi, e_cp, e_r0, e_r1, e_r2, e_r3, e_r4, e_r5, e_r6, e_r60, e_r7, e_W1, e_W2, e_A1, e_A2, e_Wg, e_Ag, e_rf0, e_rf1, e_len0, e_len1, e_vl0, e_vl1, z00, z10, z11, ↓reduceIte, List.getElem?_cons_zero, List.getElem?_cons_succ, List.set_cons_zero, List.set_cons_succ, and_true, true_and, and_self, or_true, true_or, or_false, false_or, Nat.reduceAdd, Nat.reduceSub, Nat.reduceLT, Nat.reduceLeDiff, Nat.reduceEqDiff, Nat.reduceBEq, beq_self_eq_true, Bool.or_false, Bool.false_or, Bool.or_true, Bool.true_or, not_true, not_false_eq_true, reduceCtorEq, s1550_5, s1550_8, hc]
  exact stk e2
theorem rc_l {d : Nat} {σ : mxS} {M tp L c L0 : Nat} {tb xs : Nat → Int32} (H : mcC σ M tp L c L0 tb xs) {kf ff nf ro me : Nat → Int32} (hd : 7 ≤ d) {Q : Option Value ⊕ Nat → mxS → Prop} : ∀ m t, t + m = 400 → ∀ N, ntN (bM tb L) L m t = N → WP d 1550 4 [some (.ref M), some (.int (nI (cuT (bM tb L) L t))), some (.int (nI t))] [] (mcW σ c (kfT (bM tb L) L t kf) (saT (bM tb L) L t ff) (nfT (bM tb L) L t nf) (zeT t ro) (zeT t me)) Q = Q (.inl none) (mcW σ c (kfT (bM tb L) L (N + 1) kf) (saT (bM tb L) L (N + 1) ff) (nfT (bM tb L) L (N + 1) nf) (zeT (N + 1) ro) (zeT (N + 1) me)) := by
  intro m
  induction m with
  | zero =>
    intro t ht N hN
    have hN : t = N := hN
    subst hN
    refine rc_s H (by omega) hd ?_
    rw [kfT, saT, zeT, zeT, upto_s t (fun i => nI (kR (kdT (bM tb L) L i))), upto_s t (fun i => nI (frT (bM tb L) L i)), upto_s t (fun _ => nI 0), upto_s t (fun _ => nI 0)]
    have ht : t = 400 := ht
    subst ht
    rcases kdT_400 (bM tb L) L with h | h
    · rw [if_pos h]
      rfl
    · rw [if_neg (by rw [h]; decide), if_pos h]
      rfl
  | succ m ih =>
    intro t ht N hN
    refine rc_s H (by omega) hd ?_
    rw [kfT, saT, zeT, zeT, upto_s t (fun i => nI (kR (kdT (bM tb L) L i))), upto_s t (fun i => nI (frT (bM tb L) L i)), upto_s t (fun _ => nI 0), upto_s t (fun _ => nI 0)]
    rw [ntN] at hN
    by_cases r : kdT (bM tb L) L t = 45
    · rw [if_pos r] at hN ⊢
      subst hN
      rfl
    · rw [if_neg r] at hN ⊢
      by_cases r2 : kdT (bM tb L) L t = 46
      · rw [if_pos r2] at hN ⊢
        subst hN
        rfl
      · rw [if_neg r2] at hN ⊢
        exact ih (t + 1) (by omega) N hN
theorem r_cut {d : Nat} {σ : mxS} {M tp L c L0 : Nat} {tb xs : Nat → Int32} (H : mcC σ M tp L c L0 tb xs) {kf ff nf ro me : Nat → Int32} (hd : 7 ≤ d) {Q : Option Value ⊕ Nat → mxS → Prop} {N : Nat} (hN : ntT (bM tb L) L = N) : WP d 1550 0 [some (.ref M), none, none] [] (mcW σ c kf ff nf ro me) Q = Q (.inl none) (mcW σ c (kfT (bM tb L) L (N + 1) kf) (saT (bM tb L) L (N + 1) ff) (nfT (bM tb L) L (N + 1) nf) (zeT (N + 1) ro) (zeT (N + 1) me)) := by
  have e := rc_l (d := d) (kf := kf) (ff := ff) (nf := nf) (ro := ro) (me := me) (Q := Q) H hd 400 0 rfl N hN
  rw [kfT, saT, zeT, zeT, upto_0, upto_0, upto_0, upto_0] at e
  conv => lhs; rw [WP_eq, s1550_0]
  simp only [WP_eq, e_go, e_none, e_ite, e_thr0, e_ret, e_thr, e_call, e_Kv, e_Kn, e_Kx, e_K2, e_K20, e_at0, e_s1_0, e_s2_0, e_at1, e_s1_1, e_s2_1, e_at2, e_s1_2, e_s2_2, e_at3, e_s1_3, e_s2_3, e_at4, e_s1_4, e_s2_4, e_at5, e_s1_5, e_s2_5, e_at6, e_s1_6, e_s2_6, e_at7, e_s1_7, e_s2_7, e_at8, e_s1_8, e_s2_8, e_at9, e_s1_9, e_s2_9, e_at10, e_s1_10, e_s2_10, e_at11, e_s1_11, e_s2_11, e_at12, e_s1_12, e_s2_12, e_at13, e_s1_13, e_s2_13, e_kn, e_ki, e_kj, e_kd, e_kr, e_k0, e_lI, e_lJ, e_lD, e_lA, e_lA0, e_sI, e_sJ, e_sD, e_sA, e_sA0, e_inc, e_I2, e_I2z, e_I1, e_I2J, e_J2I, e_I2D, e_J2, e_lcmp, e_dcmp, e_ddiv, e_ifeq, e_iceq, e_ifne, e_icne, e_iflt, e_iclt, e_ifge, e_icge, e_ifgt, e_icgt, e_ifle, e_icle, e_ca, e_ca2, e_en, e_en0, e_sw, e_lk0, e_lk, e_dup, e_dup2, e_pop, e_ci, e_cj, e_cd, e_cr, e_c0, e_gf, e_gf2, e_gf3, e_pf, e_pf2, e_f0, e_f1, e_f2, e_f20, e_len, e_len2, e_al, e_al2, e_al3, e_alJ, e_alJ2, e_alJ3, e_alA, e_alA2, e_alA3, e_as, e_as2, e_as3, e_asB, e_asB2, e_asJ, e_asJ2, e_asJ3, e_asA, e_asA2, e_asA3, e_new, e_na, e_na2, e_cat0, e_cat1, e_tk0, e_tk1, e_tk2, e_tk3, e_tk4, e_tk5, e_tk6, e_tk7, e_tk8, e_cS, e_cS2, e_cI_0, e_cI_1, e_cI_2, e_cI_3, e_cI_4, e_cI_5, e_cI2, e_cV_0, e_cV_1, e_cV_2, e_cV_3, e_cV_4, e_cV_5, e_cV_6, e_cV_7, e_cV2, e_cV3, e_oi, e_cp, e_r0, e_r1, e_r2, e_r3, e_r4, e_r5, e_r6, e_r60, e_r7, e_W1, e_W2, e_A1, e_A2, e_Wg, e_Ag, e_rf0, e_rf1, e_len0, e_len1, e_vl0, e_vl1, z00, z10, z11, ↓reduceIte, List.getElem?_cons_zero, List.getElem?_cons_succ, List.set_cons_zero, List.set_cons_succ, and_true, true_and, and_self, or_true, true_or, or_false, false_or, Nat.reduceAdd, Nat.reduceSub, Nat.reduceLT, Nat.reduceLeDiff, Nat.reduceEqDiff, Nat.reduceBEq, beq_self_eq_true, Bool.or_false, Bool.false_or, Bool.or_true, Bool.true_or, not_true, not_false_eq_true, reduceCtorEq, s1550_1, s1550_2, s1550_3]
  exact stk e
theorem nfT_ok (b : Nat → Int32) (L : Nat) (nf : Nat → Int32) : ∀ n i, i < n → ¬ kdT b L i = 45 → nfT b L n nf i = nI (cuT b L (i + 1) - frT b L i)
  | 0, _, h, _ => absurd h (Nat.not_lt_zero _)
  | n + 1, i, h, hk => by
    rw [nfT]
    unfold nA
    by_cases q : i = n
    · subst q
      rw [if_neg (by have := kdT_45 hk; omega), va_up_self]
      rfl
    · split
      · exact nfT_ok b L nf n i (by omega) hk
      · rw [va_up_ne _ _ q]
        exact nfT_ok b L nf n i (by omega) hk

