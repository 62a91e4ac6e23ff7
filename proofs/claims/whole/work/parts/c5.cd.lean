/-! ===== the class's calls: days ===== -/
theorem sS_o {σ : mxS} {p k n P a : Nat} {hs : Nat → Int32} {pl : Nat → Nat} {ls : Nat → Int32} {dy co : Int32} {τ : mxS} (h : skS σ p k n P hs pl ls dy co τ) (h1 : ¬ (p ≤ a ∧ a < p + 8)) (h2 : ¬ (k ≤ a ∧ a < k + 2)) : τ.1 a = σ.1 a := by
  obtain ⟨ks, z, tl, tr, ws, sn, ps, rn, wc, sl, sr, rfl, _, _⟩ := h
  exact (sk_o _ _ _ _ _ _ _ _ _ _ _ _ _ _ _ _ _ h1).trans (kp_o _ _ _ _ h2)
theorem sS_n {σ : mxS} {p k n P : Nat} {hs : Nat → Int32} {pl : Nat → Nat} {ls : Nat → Int32} {dy co : Int32} {τ : mxS} (h : skS σ p k n P hs pl ls dy co τ) : τ.2 = σ.2 := by
  obtain ⟨ks, z, tl, tr, ws, sn, ps, rn, wc, sl, sr, rfl, _, _⟩ := h
  rfl
theorem sS_p {σ : mxS} {p k n P : Nat} {hs : Nat → Int32} {pl : Nat → Nat} {ls : Nat → Int32} {dy co : Int32} {τ : mxS} (h : skS σ p k n P hs pl ls dy co τ) : ∃ wc sl sr, τ.1 p = .inr (3, [.ref (p + 1), .ref (p + 2), .ref (p + 3), .ref (p + 4), .ref (p + 5), .ref (p + 6), .ref (p + 7), .int (nI n), .int (nI P), .int dy, .int co, .int (suS (waS hs n) n), .int wc, .int sl, .int sr]) := by
  obtain ⟨ks, z, tl, tr, ws, sn, ps, rn, wc, sl, sr, rfl, hse, _⟩ := h
  rw [← hse.2.1]
  exact ⟨wc, sl, sr, sk_g0 ..⟩
theorem pd_L {d D : Nat} {c0 : Int32} {σ : mxS} {p k : Nat} (hp : 1000 ≤ p) (hq : p + 8 ≤ 1000 + σ.2.1) (hk : 1000 ≤ k) (hkq : k + 2 ≤ 1000 + σ.2.1) (hpk : p + 8 ≤ k ∨ k + 2 ≤ p) {L : Nat} {xs : Nat → Int32} (hK : ∀ a, a < 1000 → σ.1 a = mxkon L xs a) {n P : Nat} (hn : n ≤ 16) (h0 : 0 < n) (hP : P ≤ 8) {x tp r t g : Nat} (hX : σ.1 x = .inr (7, [.ref tp, .ref r, .ref k, .ref p, .ref t, .ref g])) (ux : 1000 ≤ x ∧ x < 1000 + σ.2.1) (hxp : ¬ (p ≤ x ∧ x < p + 8)) (hxk : ¬ (k ≤ x ∧ x < k + 2)) (ug : 1000 ≤ g ∧ g < 1000 + σ.2.1) {O T : Nat} {ls : Nat → Int32} {K A B : Nat → Nat} {od : Nat → Nat × Nat × Int32 × Nat × Nat × Nat} (hO : O ≤ 16) (hplc : plC σ p k g O T K A B od) (hw : ∀ z, z < O → ordW1 P K A B (od z)) (hd : 8 ≤ d) (hD : D < 2 ^ 31) : ∀ m i hs pl dy co τ, i + m = D → skS σ p k n P hs pl ls dy co τ → (∀ z, z < P → pl z < n) → hR n hs → ∃ τ', skS σ p k n P (itD n P O ls K A B od m hs pl dy co).1 (itD n P O ls K A B od m hs pl dy co).2.1 ls (itD n P O ls K A B od m hs pl dy co).2.2.1 (itD n P O ls K A B od m hs pl dy co).2.2.2 τ' ∧ ∀ {Q : Option Value ⊕ Nat → mxS → Prop}, WP d 1183 15 [some (.ref x), some (.int (nI D)), some (.int c0), some (.int (nI i))] [] τ Q = Q (.inl (some (.int ((itD n P O ls K A B od m hs pl dy co).2.2.2 - c0)))) τ' := by
  have hd1 : 1 ≤ d := by omega
  intro m
  induction m with
  | zero =>
    intro i hs pl dy co τ hi hτ hpn hr
    refine ⟨τ, hτ, fun {Q} => ?_⟩
    have hX' := (sS_o hτ hxp hxk).trans hX
    have hn' := sS_n hτ
    obtain ⟨wc, sl, sr, gp⟩ := sS_p hτ
    have up : 1000 ≤ p ∧ p < 1000 + σ.2.1 := by omega
    have hc : (nI D ≤ nI i) = True := eq_true (nI_le (by omega) (by omega))
    conv => lhs; rw [WP_eq, s1183_15]
    simp only [WP_eq, e_go, e_none, e_ite, e_thr0, e_ret, e_thr, e_call, e_Kv, e_Kn, e_Kx, e_K2, e_K20, e_at0, e_s1_0, e_s2_0, e_at1, e_s1_1, e_s2_1, e_at2, e_s1_2, e_s2_2, e_at3, e_s1_3, e_s2_3, e_at4, e_s1_4, e_s2_4, e_at5, e_s1_5, e_s2_5, e_at6, e_s1_6, e_s2_6, e_at7, e_s1_7, e_s2_7, e_at8, e_s1_8, e_s2_8, e_at9, e_s1_9, e_s2_9, e_at10, e_s1_10, e_s2_10, e_at11, e_s1_11, e_s2_11, e_at12, e_s1_12, e_s2_12, e_at13, e_s1_13, e_s2_13, e_kn, e_ki, e_kj, e_kd, e_kr, e_k0, e_lI, e_lJ, e_lD, e_lA, e_lA0, e_sI, e_sJ, e_sD, e_sA, e_sA0, e_inc, e_I2, e_I2z, e_I1, e_I2J, e_J2I, e_I2D, e_J2, e_lcmp, e_dcmp, e_ddiv, e_ifeq, e_iceq, e_ifne, e_icne, e_iflt, e_iclt, e_ifge, e_icge, e_ifgt, e_icgt, e_ifle, e_icle, e_ca, e_ca2, e_en, e_en0, e_sw, e_lk0, e_lk, e_dup, e_dup2, e_pop, e_ci, e_cj, e_cd, e_cr, e_c0, e_gf, e_gf2, e_gf3, e_pf, e_pf2, e_f0, e_f1, e_f2, e_f20, e_len, e_len2, e_al, e_al2, e_al3, e_alJ, e_alJ2, e_alJ3, e_alA, e_alA2, e_alA3, e_as, e_as2, e_as3, e_asB, e_asB2, e_asJ, e_asJ2, e_asJ3, e_asA, e_asA2, e_asA3, e_new, e_na, e_na2, e_cat0, e_cat1, e_tk0, e_tk1, e_tk2, e_tk3, e_tk4, e_tk5, e_tk6, e_tk7, e_tk8, e_cS, e_cS2, e_cI_0, e_cI_1, e_cI_2, e_cI_3, e_cI_4, e_cI_5, e_cI2, e_cV_0, e_cV_1, e_cV_2, e_cV_3, e_cV_4, e_cV_5, e_cV_6, e_cV_7, e_cV2, e_cV3, e_oi, e_cp, e_r0, e_r1, e_r2, e_r3, e_r4, e_r5, e_r6, e_r60, e_r7, e_W1, e_W2, e_A1, e_A2, e_Wg, e_Ag, e_rf0, e_rf1, e_len0, e_len1, e_vl0, e_vl1, z00, z10, z11, ↓reduceIte, List.getElem?_cons_zero, List.getElem?_cons_succ, List.set_cons_zero, List.set_cons_succ, and_true, true_and, and_self, or_true, true_or, or_false, false_or, Nat.reduceAdd, Nat.reduceSub, Nat.reduceLT, Nat.reduceLeDiff, Nat.reduceEqDiff, Nat.reduceBEq, beq_self_eq_true, Bool.or_false, Bool.false_or, Bool.or_true, Bool.true_or, not_true, not_false_eq_true, reduceCtorEq, s1183_16, s1183_17, s1183_20, s1183_21, s1183_24, s1183_25, s1183_28, s1183_29, s1183_32, s1183_35, s1183_38, s1183_41, s1183_42, s1183_45, s1183_48, s1183_49, s1183_50, hX', hn', ux, up, gp, hc, itD]
  | succ m ih =>
    intro i hs pl dy co τ hi hτ hpn hr
    have hc : ¬ nI D ≤ nI i := nI_ge (by omega) (by omega)
    obtain ⟨τ1, h1, e1⟩ := w_passDay (d := d - 1) hp hq hk hkq hpk hK hn h0 hP (by omega) hO hplc hw hτ hpn hr
    have ok := dayF_ok (ls := ls) (dy := dy) (co := co) h0 hw hpn hr
    obtain ⟨τ2, h2, e2⟩ := ih (i + 1) _ _ _ _ τ1 (by omega) h1 ok.2 ok.1
    refine ⟨τ2, h2, fun {Q} => ?_⟩
    have hX' := (sS_o hτ hxp hxk).trans hX
    have hn' := sS_n hτ
    have up : 1000 ≤ p ∧ p < 1000 + σ.2.1 := by omega
    have uk : 1000 ≤ k ∧ k < 1000 + σ.2.1 := by omega
    obtain ⟨wc, sl, sr, gp⟩ := sS_p hτ
    obtain ⟨kk, kc⟩ : ∃ z, τ.1 k = .inr (0, z) := by
      obtain ⟨ks, z, tl, tr, ws, sn, ps, rn, wc, sl, sr, rfl, hse, _⟩ := id hτ
      exact ⟨_, (sk_o _ _ _ _ _ _ _ _ _ _ _ _ _ _ _ _ _ (by omega)).trans (kp_g0 ..)⟩
    obtain ⟨gg, gc⟩ : ∃ z, τ.1 g = .inr (2, z) := by
      obtain ⟨go, gk, gf, gs, kf, oaf, fa, sa, oa, g0, g1, g2, g7, g8, gr, hg, _, _, _, _, _, _, ⟨_, ⟨o1, o2⟩, _⟩, _⟩ := hplc
      exact ⟨_, (sS_o hτ o1 o2).trans hg⟩
    conv => lhs; rw [WP_eq, s1183_15]
    simp only [WP_eq, e_go, e_none, e_ite, e_thr0, e_ret, e_thr, e_call, e_Kv, e_Kn, e_Kx, e_K2, e_K20, e_at0, e_s1_0, e_s2_0, e_at1, e_s1_1, e_s2_1, e_at2, e_s1_2, e_s2_2, e_at3, e_s1_3, e_s2_3, e_at4, e_s1_4, e_s2_4, e_at5, e_s1_5, e_s2_5, e_at6, e_s1_6, e_s2_6, e_at7, e_s1_7, e_s2_7, e_at8, e_s1_8, e_s2_8, e_at9, e_s1_9, e_s2_9, e_at10, e_s1_10, e_s2_10, e_at11, e_s1_11, e_s2_11, e_at12, e_s1_12, e_s2_12, e_at13, e_s1_13, e_s2_13, e_kn, e_ki, e_kj, e_kd, e_kr, e_k0, e_lI, e_lJ, e_lD, e_lA, e_lA0, e_sI, e_sJ, e_sD, e_sA, e_sA0, e_inc, e_I2, e_I2z, e_I1, e_I2J, e_J2I, e_I2D, e_J2, e_lcmp, e_dcmp, e_ddiv, e_ifeq, e_iceq, e_ifne, e_icne, e_iflt, e_iclt, e_ifge, e_icge, e_ifgt, e_icgt, e_ifle, e_icle, e_ca, e_ca2, e_en, e_en0, e_sw, e_lk0, e_lk, e_dup, e_dup2, e_pop, e_ci, e_cj, e_cd, e_cr, e_c0, e_gf, e_gf2, e_gf3, e_pf, e_pf2, e_f0, e_f1, e_f2, e_f20, e_len, e_len2, e_al, e_al2, e_al3, e_alJ, e_alJ2, e_alJ3, e_alA, e_alA2, e_alA3, e_as, e_as2, e_as3, e_asB, e_asB2, e_asJ, e_asJ2, e_asJ3, e_asA, e_asA2, e_asA3, e_new, e_na, e_na2, e_cat0, e_cat1, e_tk0, e_tk1, e_tk2, e_tk3, e_tk4, e_tk5, e_tk6, e_tk7, e_tk8, e_cS, e_cS2, e_cI_0, e_cI_1, e_cI_2, e_cI_3, e_cI_4, e_cI_5, e_cI2, e_cV_0, e_cV_1, e_cV_2, e_cV_3, e_cV_4, e_cV_5, e_cV_6, e_cV_7, e_cV2, e_cV3, e_oi, e_cp, e_r0, e_r1, e_r2, e_r3, e_r4, e_r5, e_r6, e_r60, e_r7, e_W1, e_W2, e_A1, e_A2, e_Wg, e_Ag, e_rf0, e_rf1, e_len0, e_len1, e_vl0, e_vl1, z00, z10, z11, ↓reduceIte, List.getElem?_cons_zero, List.getElem?_cons_succ, List.set_cons_zero, List.set_cons_succ, and_true, true_and, and_self, or_true, true_or, or_false, false_or, Nat.reduceAdd, Nat.reduceSub, Nat.reduceLT, Nat.reduceLeDiff, Nat.reduceEqDiff, Nat.reduceBEq, beq_self_eq_true, Bool.or_false, Bool.false_or, Bool.or_true, Bool.true_or, not_true, not_false_eq_true, reduceCtorEq, s1183_16, s1183_17, s1183_20, s1183_21, s1183_24, s1183_25, s1183_28, s1183_29, s1183_32, s1183_35, s1183_38, hX', hn', ux, up, uk, ug, gp, kc, gc, hc, hd1, cal (n129 _ _ _) (e1), nIi]
    exact stk (e2 (Q := Q))
theorem ta_L {d D : Nat} {σ : mxS} {p k : Nat} (hp : 1000 ≤ p) (hq : p + 8 ≤ 1000 + σ.2.1) (hk : 1000 ≤ k) (hkq : k + 2 ≤ 1000 + σ.2.1) (hpk : p + 8 ≤ k ∨ k + 2 ≤ p) {L : Nat} {xs : Nat → Int32} (hK : ∀ a, a < 1000 → σ.1 a = mxkon L xs a) {n P : Nat} (hn : n ≤ 16) (h0 : 0 < n) (hP : P ≤ 8) {x tp r t g : Nat} (hX : σ.1 x = .inr (7, [.ref tp, .ref r, .ref k, .ref t, .ref p, .ref g])) (ux : 1000 ≤ x ∧ x < 1000 + σ.2.1) (hxp : ¬ (p ≤ x ∧ x < p + 8)) (hxk : ¬ (k ≤ x ∧ x < k + 2)) (ug : 1000 ≤ g ∧ g < 1000 + σ.2.1) {O T : Nat} {ls : Nat → Int32} {K A B : Nat → Nat} {od : Nat → Nat × Nat × Int32 × Nat × Nat × Nat} (hO : O ≤ 16) (hplc : plC σ p k g O T K A B od) (hw : ∀ z, z < O → ordW1 P K A B (od z)) (hd : 8 ≤ d) (hD : D < 2 ^ 31) : ∀ m i hs pl dy co τ, i + m = D → skS σ p k n P hs pl ls dy co τ → (∀ z, z < P → pl z < n) → hR n hs → ∃ τ', skS σ p k n P (itD n P O ls K A B od m hs pl dy co).1 (itD n P O ls K A B od m hs pl dy co).2.1 ls (itD n P O ls K A B od m hs pl dy co).2.2.1 (itD n P O ls K A B od m hs pl dy co).2.2.2 τ' ∧ ∀ {Q : Option Value ⊕ Nat → mxS → Prop}, WP d 1184 18 [some (.ref x), some (.int (nI D)), some (.int (nI i))] [] τ Q = Q (.inl (some (.int (suS (waS (itD n P O ls K A B od m hs pl dy co).1 n) n)))) τ' := by
  have hd1 : 1 ≤ d := by omega
  intro m
  induction m with
  | zero =>
    intro i hs pl dy co τ hi hτ hpn hr
    refine ⟨τ, hτ, fun {Q} => ?_⟩
    have hX' := (sS_o hτ hxp hxk).trans hX
    have hn' := sS_n hτ
    obtain ⟨wc, sl, sr, gp⟩ := sS_p hτ
    have up : 1000 ≤ p ∧ p < 1000 + σ.2.1 := by omega
    have hc : (nI D ≤ nI i) = True := eq_true (nI_le (by omega) (by omega))
    conv => lhs; rw [WP_eq, s1184_18]
    simp only [WP_eq, e_go, e_none, e_ite, e_thr0, e_ret, e_thr, e_call, e_Kv, e_Kn, e_Kx, e_K2, e_K20, e_at0, e_s1_0, e_s2_0, e_at1, e_s1_1, e_s2_1, e_at2, e_s1_2, e_s2_2, e_at3, e_s1_3, e_s2_3, e_at4, e_s1_4, e_s2_4, e_at5, e_s1_5, e_s2_5, e_at6, e_s1_6, e_s2_6, e_at7, e_s1_7, e_s2_7, e_at8, e_s1_8, e_s2_8, e_at9, e_s1_9, e_s2_9, e_at10, e_s1_10, e_s2_10, e_at11, e_s1_11, e_s2_11, e_at12, e_s1_12, e_s2_12, e_at13, e_s1_13, e_s2_13, e_kn, e_ki, e_kj, e_kd, e_kr, e_k0, e_lI, e_lJ, e_lD, e_lA, e_lA0, e_sI, e_sJ, e_sD, e_sA, e_sA0, e_inc, e_I2, e_I2z, e_I1, e_I2J, e_J2I, e_I2D, e_J2, e_lcmp, e_dcmp, e_ddiv, e_ifeq, e_iceq, e_ifne, e_icne, e_iflt, e_iclt, e_ifge, e_icge, e_ifgt, e_icgt, e_ifle, e_icle, e_ca, e_ca2, e_en, e_en0, e_sw, e_lk0, e_lk, e_dup, e_dup2, e_pop, e_ci, e_cj, e_cd, e_cr, e_c0, e_gf, e_gf2, e_gf3, e_pf, e_pf2, e_f0, e_f1, e_f2, e_f20, e_len, e_len2, e_al, e_al2, e_al3, e_alJ, e_alJ2, e_alJ3, e_alA, e_alA2, e_alA3, e_as, e_as2, e_as3, e_asB, e_asB2, e_asJ, e_asJ2, e_asJ3, e_asA, e_asA2, e_asA3, e_new, e_na, e_na2, e_cat0, e_cat1, e_tk0, e_tk1, e_tk2, e_tk3, e_tk4, e_tk5, e_tk6, e_tk7, e_tk8, e_cS, e_cS2, e_cI_0, e_cI_1, e_cI_2, e_cI_3, e_cI_4, e_cI_5, e_cI2, e_cV_0, e_cV_1, e_cV_2, e_cV_3, e_cV_4, e_cV_5, e_cV_6, e_cV_7, e_cV2, e_cV3, e_oi, e_cp, e_r0, e_r1, e_r2, e_r3, e_r4, e_r5, e_r6, e_r60, e_r7, e_W1, e_W2, e_A1, e_A2, e_Wg, e_Ag, e_rf0, e_rf1, e_len0, e_len1, e_vl0, e_vl1, z00, z10, z11, ↓reduceIte, List.getElem?_cons_zero, List.getElem?_cons_succ, List.set_cons_zero, List.set_cons_succ, and_true, true_and, and_self, or_true, true_or, or_false, false_or, Nat.reduceAdd, Nat.reduceSub, Nat.reduceLT, Nat.reduceLeDiff, Nat.reduceEqDiff, Nat.reduceBEq, beq_self_eq_true, Bool.or_false, Bool.false_or, Bool.or_true, Bool.true_or, not_true, not_false_eq_true, reduceCtorEq, s1184_19, s1184_20, s1184_23, s1184_24, s1184_27, s1184_28, s1184_31, s1184_32, s1184_35, s1184_38, s1184_41, s1184_44, s1184_45, s1184_48, s1184_51, hX', hn', ux, up, gp, hc, itD]
  | succ m ih =>
    intro i hs pl dy co τ hi hτ hpn hr
    have hc : ¬ nI D ≤ nI i := nI_ge (by omega) (by omega)
    obtain ⟨τ1, h1, e1⟩ := w_passDay (d := d - 1) hp hq hk hkq hpk hK hn h0 hP (by omega) hO hplc hw hτ hpn hr
    have ok := dayF_ok (ls := ls) (dy := dy) (co := co) h0 hw hpn hr
    obtain ⟨τ2, h2, e2⟩ := ih (i + 1) _ _ _ _ τ1 (by omega) h1 ok.2 ok.1
    refine ⟨τ2, h2, fun {Q} => ?_⟩
    have hX' := (sS_o hτ hxp hxk).trans hX
    have hn' := sS_n hτ
    have up : 1000 ≤ p ∧ p < 1000 + σ.2.1 := by omega
    have uk : 1000 ≤ k ∧ k < 1000 + σ.2.1 := by omega
    obtain ⟨wc, sl, sr, gp⟩ := sS_p hτ
    obtain ⟨kk, kc⟩ : ∃ z, τ.1 k = .inr (0, z) := by
      obtain ⟨ks, z, tl, tr, ws, sn, ps, rn, wc, sl, sr, rfl, hse, _⟩ := id hτ
      exact ⟨_, (sk_o _ _ _ _ _ _ _ _ _ _ _ _ _ _ _ _ _ (by omega)).trans (kp_g0 ..)⟩
    obtain ⟨gg, gc⟩ : ∃ z, τ.1 g = .inr (2, z) := by
      obtain ⟨go, gk, gf, gs, kf, oaf, fa, sa, oa, g0, g1, g2, g7, g8, gr, hg, _, _, _, _, _, _, ⟨_, ⟨o1, o2⟩, _⟩, _⟩ := hplc
      exact ⟨_, (sS_o hτ o1 o2).trans hg⟩
    conv => lhs; rw [WP_eq, s1184_18]
    simp only [WP_eq, e_go, e_none, e_ite, e_thr0, e_ret, e_thr, e_call, e_Kv, e_Kn, e_Kx, e_K2, e_K20, e_at0, e_s1_0, e_s2_0, e_at1, e_s1_1, e_s2_1, e_at2, e_s1_2, e_s2_2, e_at3, e_s1_3, e_s2_3, e_at4, e_s1_4, e_s2_4, e_at5, e_s1_5, e_s2_5, e_at6, e_s1_6, e_s2_6, e_at7, e_s1_7, e_s2_7, e_at8, e_s1_8, e_s2_8, e_at9, e_s1_9, e_s2_9, e_at10, e_s1_10, e_s2_10, e_at11, e_s1_11, e_s2_11, e_at12, e_s1_12, e_s2_12, e_at13, e_s1_13, e_s2_13, e_kn, e_ki, e_kj, e_kd, e_kr, e_k0, e_lI, e_lJ, e_lD, e_lA, e_lA0, e_sI, e_sJ, e_sD, e_sA, e_sA0, e_inc, e_I2, e_I2z, e_I1, e_I2J, e_J2I, e_I2D, e_J2, e_lcmp, e_dcmp, e_ddiv, e_ifeq, e_iceq, e_ifne, e_icne, e_iflt, e_iclt, e_ifge, e_icge, e_ifgt, e_icgt, e_ifle, e_icle, e_ca, e_ca2, e_en, e_en0, e_sw, e_lk0, e_lk, e_dup, e_dup2, e_pop, e_ci, e_cj, e_cd, e_cr, e_c0, e_gf, e_gf2, e_gf3, e_pf, e_pf2, e_f0, e_f1, e_f2, e_f20, e_len, e_len2, e_al, e_al2, e_al3, e_alJ, e_alJ2, e_alJ3, e_alA, e_alA2, e_alA3, e_as, e_as2, e_as3, e_asB, e_asB2, e_asJ, e_asJ2, e_asJ3, e_asA, e_asA2, e_asA3, e_new, e_na, e_na2, e_cat0, e_cat1, e_tk0, e_tk1, e_tk2, e_tk3, e_tk4, e_tk5, e_tk6, e_tk7, e_tk8, e_cS, e_cS2, e_cI_0, e_cI_1, e_cI_2, e_cI_3, e_cI_4, e_cI_5, e_cI2, e_cV_0, e_cV_1, e_cV_2, e_cV_3, e_cV_4, e_cV_5, e_cV_6, e_cV_7, e_cV2, e_cV3, e_oi, e_cp, e_r0, e_r1, e_r2, e_r3, e_r4, e_r5, e_r6, e_r60, e_r7, e_W1, e_W2, e_A1, e_A2, e_Wg, e_Ag, e_rf0, e_rf1, e_len0, e_len1, e_vl0, e_vl1, z00, z10, z11, ↓reduceIte, List.getElem?_cons_zero, List.getElem?_cons_succ, List.set_cons_zero, List.set_cons_succ, and_true, true_and, and_self, or_true, true_or, or_false, false_or, Nat.reduceAdd, Nat.reduceSub, Nat.reduceLT, Nat.reduceLeDiff, Nat.reduceEqDiff, Nat.reduceBEq, beq_self_eq_true, Bool.or_false, Bool.false_or, Bool.or_true, Bool.true_or, not_true, not_false_eq_true, reduceCtorEq, s1184_19, s1184_20, s1184_23, s1184_24, s1184_27, s1184_28, s1184_31, s1184_32, s1184_35, s1184_38, s1184_41, hX', hn', ux, up, uk, ug, gp, kc, gc, hc, hd1, cal (n129 _ _ _) (e1), nIi]
    exact stk (e2 (Q := Q))
/-- does one hear another in such a state -/
theorem sS_hears {d a o : Nat} {σ : mxS} {p k : Nat} (hp : 1000 ≤ p) (hq : p + 8 ≤ 1000 + σ.2.1) (hk : 1000 ≤ k) (hkq : k + 2 ≤ 1000 + σ.2.1) (hpk : p + 8 ≤ k ∨ k + 2 ≤ p) {n P : Nat} (hn : n ≤ 16) (h0 : 0 < n) (hP : P ≤ 8) {hs : Nat → Int32} {pl : Nat → Nat} {ls : Nat → Int32} {dy co : Int32} {τ : mxS} (h : skS σ p k n P hs pl ls dy co τ) (hpn : ∀ q, q < P → pl q < n) (hd : 1 ≤ d) (ha : a < P) (ho : o < P) {Q : Option Value ⊕ Nat → mxS → Prop} : WP d 661 0 [some (.ref p), some (.int (nI a)), some (.int (nI o))] [] τ Q = Q (.inl (some (.int (if ¬ a = o ∧ hmS hs n (pl o) (pl a) = true then nI 1 else nI 0)))) τ := by
  obtain ⟨ks, z, tl, tr, ws, sn, ps, rn, wc, sl, sr, rfl, hse, hps⟩ := h
  have e2 := w_doesHear (d := d) (a := a) (o := o) (σ := kpW σ k ks (nI z)) (p := p) (hs := hs) (tl := tl) (tr := tr) (ws := ws) (sn := sn) (ps := ps) (ls := ls) (tc := nI n) (pc := nI P) (dn := dy) (co := co) (rn := rn) (wc := wc) (sl := sl) (sr := sr) (Q := Q) hp hq hP hps (fun q hq => by have := hpn q hq; omega) hd ha ho
  rw [e2]
  have ed : dhS tl tr pl a o = if ¬ a = o ∧ hmS hs n (pl o) (pl a) = true then nI 1 else nI 0 := by
    unfold dhS
    rw [hr_hm hn (hpn o ho) (hpn a ha) (hse.1 _ (hpn o ho)).1 (hse.1 _ (hpn o ho)).2.1]
    by_cases q : a = o
    · rw [if_pos q, if_neg (fun z => z.1 q)]
    · rw [if_neg q]
      by_cases g : hmS hs n (pl o) (pl a) = true
      · rw [if_pos g, if_neg (by decide), if_pos ⟨q, g⟩]
      · rw [if_neg g, if_pos (by decide), if_neg (fun z => g z.2)]
  rw [ed]
theorem du_L {d a o : Nat} {σ : mxS} {p k : Nat} (hp : 1000 ≤ p) (hq : p + 8 ≤ 1000 + σ.2.1) (hk : 1000 ≤ k) (hkq : k + 2 ≤ 1000 + σ.2.1) (hpk : p + 8 ≤ k ∨ k + 2 ≤ p) {L : Nat} {xs : Nat → Int32} (hK : ∀ a, a < 1000 → σ.1 a = mxkon L xs a) {n P : Nat} (hn : n ≤ 16) (h0 : 0 < n) (hP : P ≤ 8) {x tp r t g : Nat} (hX : σ.1 x = .inr (7, [.ref tp, .ref r, .ref k, .ref t, .ref p, .ref g])) (ux : 1000 ≤ x ∧ x < 1000 + σ.2.1) (hxp : ¬ (p ≤ x ∧ x < p + 8)) (hxk : ¬ (k ≤ x ∧ x < k + 2)) (ug : 1000 ≤ g ∧ g < 1000 + σ.2.1) {O T : Nat} {ls : Nat → Int32} {K A B : Nat → Nat} {od : Nat → Nat × Nat × Int32 × Nat × Nat × Nat} (hO : O ≤ 16) (hplc : plC σ p k g O T K A B od) (hw : ∀ z, z < O → ordW1 P K A B (od z)) (hd : 8 ≤ d) (ha : a < P) (ho : o < P) : ∀ m i hs pl dy co τ, i + m = 40 → skS σ p k n P hs pl ls dy co τ → (∀ z, z < P → pl z < n) → hR n hs → ∃ hs' pl' dy' co' τ', skS σ p k n P hs' pl' ls dy' co' τ' ∧ ∀ {Q : Option Value ⊕ Nat → mxS → Prop}, WP d 1185 23 [some (.ref x), some (.int (nI a)), some (.int (nI o)), some (.int (nI i))] [] τ Q = Q (.inl (some (.int (untF n P O ls K A B od a o (m + 1) i hs pl dy co)))) τ' := by
  have hd1 : 1 ≤ d := by omega
  intro m
  induction m with
  | zero =>
    intro i hs pl dy co τ hi hτ hpn hr
    have hi' : i = 40 := by omega
    subst hi'
    refine ⟨hs, pl, dy, co, τ, hτ, fun {Q} => ?_⟩
    have hX' := (sS_o hτ hxp hxk).trans hX
    have hn' := sS_n hτ
    obtain ⟨wc, sl, sr, gp⟩ := sS_p hτ
    have up : 1000 ≤ p ∧ p < 1000 + σ.2.1 := by omega
    have e := fun (Q : Option Value ⊕ Nat → mxS → Prop) => sS_hears (d := d - 1) hp hq hk hkq hpk hn h0 hP hτ hpn (by omega) ha ho (Q := Q)
    have hc : (nI 40 ≤ nI 40) = True := eq_true (by decide)
    by_cases q : ¬ a = o ∧ hmS hs n (pl o) (pl a) = true
    · rw [if_pos q] at e
      conv => lhs; rw [WP_eq, s1185_23]
      simp only [WP_eq, e_go, e_none, e_ite, e_thr0, e_ret, e_thr, e_call, e_Kv, e_Kn, e_Kx, e_K2, e_K20, e_at0, e_s1_0, e_s2_0, e_at1, e_s1_1, e_s2_1, e_at2, e_s1_2, e_s2_2, e_at3, e_s1_3, e_s2_3, e_at4, e_s1_4, e_s2_4, e_at5, e_s1_5, e_s2_5, e_at6, e_s1_6, e_s2_6, e_at7, e_s1_7, e_s2_7, e_at8, e_s1_8, e_s2_8, e_at9, e_s1_9, e_s2_9, e_at10, e_s1_10, e_s2_10, e_at11, e_s1_11, e_s2_11, e_at12, e_s1_12, e_s2_12, e_at13, e_s1_13, e_s2_13, e_kn, e_ki, e_kj, e_kd, e_kr, e_k0, e_lI, e_lJ, e_lD, e_lA, e_lA0, e_sI, e_sJ, e_sD, e_sA, e_sA0, e_inc, e_I2, e_I2z, e_I1, e_I2J, e_J2I, e_I2D, e_J2, e_lcmp, e_dcmp, e_ddiv, e_ifeq, e_iceq, e_ifne, e_icne, e_iflt, e_iclt, e_ifge, e_icge, e_ifgt, e_icgt, e_ifle, e_icle, e_ca, e_ca2, e_en, e_en0, e_sw, e_lk0, e_lk, e_dup, e_dup2, e_pop, e_ci, e_cj, e_cd, e_cr, e_c0, e_gf, e_gf2, e_gf3, e_pf, e_pf2, e_f0, e_f1, e_f2, e_f20, e_len, e_len2, e_al, e_al2, e_al3, e_alJ, e_alJ2, e_alJ3, e_alA, e_alA2, e_alA3, e_as, e_as2, e_as3, e_asB, e_asB2, e_asJ, e_asJ2, e_asJ3, e_asA, e_asA2, e_asA3, e_new, e_na, e_na2, e_cat0, e_cat1, e_tk0, e_tk1, e_tk2, e_tk3, e_tk4, e_tk5, e_tk6, e_tk7, e_tk8, e_cS, e_cS2, e_cI_0, e_cI_1, e_cI_2, e_cI_3, e_cI_4, e_cI_5, e_cI2, e_cV_0, e_cV_1, e_cV_2, e_cV_3, e_cV_4, e_cV_5, e_cV_6, e_cV_7, e_cV2, e_cV3, e_oi, e_cp, e_r0, e_r1, e_r2, e_r3, e_r4, e_r5, e_r6, e_r60, e_r7, e_W1, e_W2, e_A1, e_A2, e_Wg, e_Ag, e_rf0, e_rf1, e_len0, e_len1, e_vl0, e_vl1, z00, z10, z11, ↓reduceIte, List.getElem?_cons_zero, List.getElem?_cons_succ, List.set_cons_zero, List.set_cons_succ, and_true, true_and, and_self, or_true, true_or, or_false, false_or, Nat.reduceAdd, Nat.reduceSub, Nat.reduceLT, Nat.reduceLeDiff, Nat.reduceEqDiff, Nat.reduceBEq, beq_self_eq_true, Bool.or_false, Bool.false_or, Bool.or_true, Bool.true_or, not_true, not_false_eq_true, reduceCtorEq, s1185_24, s1185_26, s1185_29, s1185_30, s1185_33, s1185_34, s1185_35, s1185_38, s1185_41, s1185_42, s1185_43, s1185_44, s1185_47, s1185_48, s1185_51, s1185_52, s1185_55, s1185_58, s1185_61, s1185_64, s1185_65, s1185_68, s1185_69, s1185_70, s1185_73, s1185_76, s1185_78, s1185_81, s1185_82, hX', hn', ux, up, gp, hc, hd1, cal (n661 _ _ _) (e _), z10, untF, if_pos q]
    · rw [if_neg q] at e
      conv => lhs; rw [WP_eq, s1185_23]
      simp only [WP_eq, e_go, e_none, e_ite, e_thr0, e_ret, e_thr, e_call, e_Kv, e_Kn, e_Kx, e_K2, e_K20, e_at0, e_s1_0, e_s2_0, e_at1, e_s1_1, e_s2_1, e_at2, e_s1_2, e_s2_2, e_at3, e_s1_3, e_s2_3, e_at4, e_s1_4, e_s2_4, e_at5, e_s1_5, e_s2_5, e_at6, e_s1_6, e_s2_6, e_at7, e_s1_7, e_s2_7, e_at8, e_s1_8, e_s2_8, e_at9, e_s1_9, e_s2_9, e_at10, e_s1_10, e_s2_10, e_at11, e_s1_11, e_s2_11, e_at12, e_s1_12, e_s2_12, e_at13, e_s1_13, e_s2_13, e_kn, e_ki, e_kj, e_kd, e_kr, e_k0, e_lI, e_lJ, e_lD, e_lA, e_lA0, e_sI, e_sJ, e_sD, e_sA, e_sA0, e_inc, e_I2, e_I2z, e_I1, e_I2J, e_J2I, e_I2D, e_J2, e_lcmp, e_dcmp, e_ddiv, e_ifeq, e_iceq, e_ifne, e_icne, e_iflt, e_iclt, e_ifge, e_icge, e_ifgt, e_icgt, e_ifle, e_icle, e_ca, e_ca2, e_en, e_en0, e_sw, e_lk0, e_lk, e_dup, e_dup2, e_pop, e_ci, e_cj, e_cd, e_cr, e_c0, e_gf, e_gf2, e_gf3, e_pf, e_pf2, e_f0, e_f1, e_f2, e_f20, e_len, e_len2, e_al, e_al2, e_al3, e_alJ, e_alJ2, e_alJ3, e_alA, e_alA2, e_alA3, e_as, e_as2, e_as3, e_asB, e_asB2, e_asJ, e_asJ2, e_asJ3, e_asA, e_asA2, e_asA3, e_new, e_na, e_na2, e_cat0, e_cat1, e_tk0, e_tk1, e_tk2, e_tk3, e_tk4, e_tk5, e_tk6, e_tk7, e_tk8, e_cS, e_cS2, e_cI_0, e_cI_1, e_cI_2, e_cI_3, e_cI_4, e_cI_5, e_cI2, e_cV_0, e_cV_1, e_cV_2, e_cV_3, e_cV_4, e_cV_5, e_cV_6, e_cV_7, e_cV2, e_cV3, e_oi, e_cp, e_r0, e_r1, e_r2, e_r3, e_r4, e_r5, e_r6, e_r60, e_r7, e_W1, e_W2, e_A1, e_A2, e_Wg, e_Ag, e_rf0, e_rf1, e_len0, e_len1, e_vl0, e_vl1, z00, z10, z11, ↓reduceIte, List.getElem?_cons_zero, List.getElem?_cons_succ, List.set_cons_zero, List.set_cons_succ, and_true, true_and, and_self, or_true, true_or, or_false, false_or, Nat.reduceAdd, Nat.reduceSub, Nat.reduceLT, Nat.reduceLeDiff, Nat.reduceEqDiff, Nat.reduceBEq, beq_self_eq_true, Bool.or_false, Bool.false_or, Bool.or_true, Bool.true_or, not_true, not_false_eq_true, reduceCtorEq, s1185_24, s1185_26, s1185_29, s1185_30, s1185_33, s1185_34, s1185_35, s1185_38, s1185_41, s1185_42, s1185_43, s1185_44, s1185_47, s1185_48, s1185_51, s1185_52, s1185_55, s1185_58, s1185_61, s1185_64, s1185_65, s1185_68, s1185_69, s1185_70, s1185_73, s1185_76, s1185_78, s1185_81, s1185_82, hX', hn', ux, up, gp, hc, hd1, cal (n661 _ _ _) (e _), z00, untF, if_neg q]
  | succ m ih =>
    intro i hs pl dy co τ hi hτ hpn hr
    have hc : ¬ nI 40 ≤ nI i := nI_ge (by omega) (by decide)
    have hX' := (sS_o hτ hxp hxk).trans hX
    have hn' := sS_n hτ
    obtain ⟨wc, sl, sr, gp⟩ := sS_p hτ
    have up : 1000 ≤ p ∧ p < 1000 + σ.2.1 := by omega
    have e := fun (Q : Option Value ⊕ Nat → mxS → Prop) => sS_hears (d := d - 1) hp hq hk hkq hpk hn h0 hP hτ hpn (by omega) ha ho (Q := Q)
    by_cases q : ¬ a = o ∧ hmS hs n (pl o) (pl a) = true
    · rw [if_pos q] at e
      refine ⟨hs, pl, dy, co, τ, hτ, fun {Q} => ?_⟩
      rw [untF, if_pos q]
      conv => lhs; rw [WP_eq, s1185_23]
      simp only [WP_eq, e_go, e_none, e_ite, e_thr0, e_ret, e_thr, e_call, e_Kv, e_Kn, e_Kx, e_K2, e_K20, e_at0, e_s1_0, e_s2_0, e_at1, e_s1_1, e_s2_1, e_at2, e_s1_2, e_s2_2, e_at3, e_s1_3, e_s2_3, e_at4, e_s1_4, e_s2_4, e_at5, e_s1_5, e_s2_5, e_at6, e_s1_6, e_s2_6, e_at7, e_s1_7, e_s2_7, e_at8, e_s1_8, e_s2_8, e_at9, e_s1_9, e_s2_9, e_at10, e_s1_10, e_s2_10, e_at11, e_s1_11, e_s2_11, e_at12, e_s1_12, e_s2_12, e_at13, e_s1_13, e_s2_13, e_kn, e_ki, e_kj, e_kd, e_kr, e_k0, e_lI, e_lJ, e_lD, e_lA, e_lA0, e_sI, e_sJ, e_sD, e_sA, e_sA0, e_inc, e_I2, e_I2z, e_I1, e_I2J, e_J2I, e_I2D, e_J2, e_lcmp, e_dcmp, e_ddiv, e_ifeq, e_iceq, e_ifne, e_icne, e_iflt, e_iclt, e_ifge, e_icge, e_ifgt, e_icgt, e_ifle, e_icle, e_ca, e_ca2, e_en, e_en0, e_sw, e_lk0, e_lk, e_dup, e_dup2, e_pop, e_ci, e_cj, e_cd, e_cr, e_c0, e_gf, e_gf2, e_gf3, e_pf, e_pf2, e_f0, e_f1, e_f2, e_f20, e_len, e_len2, e_al, e_al2, e_al3, e_alJ, e_alJ2, e_alJ3, e_alA, e_alA2, e_alA3, e_as, e_as2, e_as3, e_asB, e_asB2, e_asJ, e_asJ2, e_asJ3, e_asA, e_asA2, e_asA3, e_new, e_na, e_na2, e_cat0, e_cat1, e_tk0, e_tk1, e_tk2, e_tk3, e_tk4, e_tk5, e_tk6, e_tk7, e_tk8, e_cS, e_cS2, e_cI_0, e_cI_1, e_cI_2, e_cI_3, e_cI_4, e_cI_5, e_cI2, e_cV_0, e_cV_1, e_cV_2, e_cV_3, e_cV_4, e_cV_5, e_cV_6, e_cV_7, e_cV2, e_cV3, e_oi, e_cp, e_r0, e_r1, e_r2, e_r3, e_r4, e_r5, e_r6, e_r60, e_r7, e_W1, e_W2, e_A1, e_A2, e_Wg, e_Ag, e_rf0, e_rf1, e_len0, e_len1, e_vl0, e_vl1, z00, z10, z11, ↓reduceIte, List.getElem?_cons_zero, List.getElem?_cons_succ, List.set_cons_zero, List.set_cons_succ, and_true, true_and, and_self, or_true, true_or, or_false, false_or, Nat.reduceAdd, Nat.reduceSub, Nat.reduceLT, Nat.reduceLeDiff, Nat.reduceEqDiff, Nat.reduceBEq, beq_self_eq_true, Bool.or_false, Bool.false_or, Bool.or_true, Bool.true_or, not_true, not_false_eq_true, reduceCtorEq, s1185_24, s1185_26, s1185_29, s1185_30, s1185_33, s1185_34, s1185_35, s1185_38, s1185_41, s1185_42, hX', hn', ux, up, gp, hc, hd1, cal (n661 _ _ _) (e _), z10]
    · rw [if_neg q] at e
      obtain ⟨τ1, h1, e1⟩ := w_passDay (d := d - 1) hp hq hk hkq hpk hK hn h0 hP (by omega) hO hplc hw hτ hpn hr
      have ok := dayF_ok (ls := ls) (dy := dy) (co := co) h0 hw hpn hr
      obtain ⟨hs', pl', dy', co', τ2, h2, e2⟩ := ih (i + 1) _ _ _ _ τ1 (by omega) h1 ok.2 ok.1
      refine ⟨hs', pl', dy', co', τ2, h2, fun {Q} => ?_⟩
      have uk : 1000 ≤ k ∧ k < 1000 + σ.2.1 := by omega
      obtain ⟨kk, kc⟩ : ∃ z, τ.1 k = .inr (0, z) := by
        obtain ⟨ks, z, tl, tr, ws, sn, ps, rn, wc, sl, sr, rfl, hse, _⟩ := id hτ
        exact ⟨_, (sk_o _ _ _ _ _ _ _ _ _ _ _ _ _ _ _ _ _ (by omega)).trans (kp_g0 ..)⟩
      obtain ⟨gg, gc⟩ : ∃ z, τ.1 g = .inr (2, z) := by
        obtain ⟨go, gk, gf, gs, kf, oaf, fa, sa, oa, g0, g1, g2, g7, g8, gr, hg, _, _, _, _, _, _, ⟨_, ⟨o1, o2⟩, _⟩, _⟩ := hplc
        exact ⟨_, (sS_o hτ o1 o2).trans hg⟩
      rw [untF, if_neg q]
      conv => lhs; rw [WP_eq, s1185_23]
      simp only [WP_eq, e_go, e_none, e_ite, e_thr0, e_ret, e_thr, e_call, e_Kv, e_Kn, e_Kx, e_K2, e_K20, e_at0, e_s1_0, e_s2_0, e_at1, e_s1_1, e_s2_1, e_at2, e_s1_2, e_s2_2, e_at3, e_s1_3, e_s2_3, e_at4, e_s1_4, e_s2_4, e_at5, e_s1_5, e_s2_5, e_at6, e_s1_6, e_s2_6, e_at7, e_s1_7, e_s2_7, e_at8, e_s1_8, e_s2_8, e_at9, e_s1_9, e_s2_9, e_at10, e_s1_10, e_s2_10, e_at11, e_s1_11, e_s2_11, e_at12, e_s1_12, e_s2_12, e_at13, e_s1_13, e_s2_13, e_kn, e_ki, e_kj, e_kd, e_kr, e_k0, e_lI, e_lJ, e_lD, e_lA, e_lA0, e_sI, e_sJ, e_sD, e_sA, e_sA0, e_inc, e_I2, e_I2z, e_I1, e_I2J, e_J2I, e_I2D, e_J2, e_lcmp, e_dcmp, e_ddiv, e_ifeq, e_iceq, e_ifne, e_icne, e_iflt, e_iclt, e_ifge, e_icge, e_ifgt, e_icgt, e_ifle, e_icle, e_ca, e_ca2, e_en, e_en0, e_sw, e_lk0, e_lk, e_dup, e_dup2, e_pop, e_ci, e_cj, e_cd, e_cr, e_c0, e_gf, e_gf2, e_gf3, e_pf, e_pf2, e_f0, e_f1, e_f2, e_f20, e_len, e_len2, e_al, e_al2, e_al3, e_alJ, e_alJ2, e_alJ3, e_alA, e_alA2, e_alA3, e_as, e_as2, e_as3, e_asB, e_asB2, e_asJ, e_asJ2, e_asJ3, e_asA, e_asA2, e_asA3, e_new, e_na, e_na2, e_cat0, e_cat1, e_tk0, e_tk1, e_tk2, e_tk3, e_tk4, e_tk5, e_tk6, e_tk7, e_tk8, e_cS, e_cS2, e_cI_0, e_cI_1, e_cI_2, e_cI_3, e_cI_4, e_cI_5, e_cI2, e_cV_0, e_cV_1, e_cV_2, e_cV_3, e_cV_4, e_cV_5, e_cV_6, e_cV_7, e_cV2, e_cV3, e_oi, e_cp, e_r0, e_r1, e_r2, e_r3, e_r4, e_r5, e_r6, e_r60, e_r7, e_W1, e_W2, e_A1, e_A2, e_Wg, e_Ag, e_rf0, e_rf1, e_len0, e_len1, e_vl0, e_vl1, z00, z10, z11, ↓reduceIte, List.getElem?_cons_zero, List.getElem?_cons_succ, List.set_cons_zero, List.set_cons_succ, and_true, true_and, and_self, or_true, true_or, or_false, false_or, Nat.reduceAdd, Nat.reduceSub, Nat.reduceLT, Nat.reduceLeDiff, Nat.reduceEqDiff, Nat.reduceBEq, beq_self_eq_true, Bool.or_false, Bool.false_or, Bool.or_true, Bool.true_or, not_true, not_false_eq_true, reduceCtorEq, s1185_24, s1185_26, s1185_29, s1185_30, s1185_33, s1185_34, s1185_35, s1185_38, s1185_41, s1185_42, s1185_43, s1185_44, s1185_47, s1185_48, s1185_51, s1185_52, s1185_55, s1185_58, s1185_61, hX', hn', ux, up, uk, ug, gp, kc, gc, hc, hd1, cal (n661 _ _ _) (e _), z00, cal (n129 _ _ _) (e1), nIi]
      exact stk (e2 (Q := Q))
