/-! ===== all tokens ===== -/
theorem eBN_b (b : Nat → Int32) : ∀ m k, k ≤ eBN b m k ∧ eBN b m k ≤ k + m
  | 0, k => ⟨Nat.le_refl _, Nat.le_refl _⟩
  | m + 1, k => by
    rw [eBN]
    split
    · exact ⟨Nat.le_refl _, by omega⟩
    · have := eBN_b b m (k + 1)
      omega
theorem eB_b (b : Nat → Int32) {L k : Nat} (h : k ≤ L) : k ≤ eB b L k ∧ eB b L k ≤ L := by
  have := eBN_b b (L - k) k
  unfold eB
  omega
theorem eWN_b (b : Nat → Int32) (w : Int32) : ∀ m k, k ≤ eWN b w m k ∧ eWN b w m k ≤ k + m
  | 0, k => ⟨Nat.le_refl _, Nat.le_refl _⟩
  | m + 1, k => by
    have := eWN_b b w m (k + 1)
    rw [eWN]
    split <;> (try split) <;> (try split) <;> omega
theorem eTk_b (b : Nat → Int32) {L k : Nat} (h : k ≤ L) : k ≤ eTk b L k ∧ eTk b L k ≤ L := by
  have h1 := eWN_b b (nI 0) (L - k) k
  have h2 := eWN_b b (nI 1) (L - k) k
  unfold eTk
  split
  · split
    · omega
    · omega
  · omega
def cuT (b : Nat → Int32) (L : Nat) : Nat → Nat
  | 0 => 0
  | i + 1 => eTk b L (eB b L (cuT b L i))
def frT (b : Nat → Int32) (L i : Nat) : Nat := eB b L (cuT b L i)
theorem cuT_s (b : Nat → Int32) (L i : Nat) : eTk b L (frT b L i) = cuT b L (i + 1) := rfl
theorem cuT_b (b : Nat → Int32) (L : Nat) : ∀ i, cuT b L i ≤ L
  | 0 => Nat.zero_le _
  | i + 1 => (eTk_b b (eB_b b (cuT_b b L i)).2).2
theorem frT_b (b : Nat → Int32) (L i : Nat) : frT b L i ≤ L ∧ frT b L i ≤ cuT b L (i + 1) := ⟨(eB_b b (cuT_b b L i)).2, (eTk_b b (eB_b b (cuT_b b L i)).2).1⟩
def kdT (b : Nat → Int32) (L i : Nat) : Nat := if i = 400 then (if kO b L (frT b L i) (cuT b L (i + 1)) = 45 then 45 else 46) else kO b L (frT b L i) (cuT b L (i + 1))
def vaT (b : Nat → Int32) (L i : Nat) : Int64 := vO b (kdT b L i) (frT b L i) (cuT b L (i + 1))
theorem kdN_b (b : Nat → Int32) (f len z : Nat) (hz : z < 47) : ∀ m j, j + m = 47 → kdN b f len z m j < 47
  | 0, _, _ => hz
  | m + 1, j, h => by
    rw [kdN]
    split
    · exact kdN_b b f len z hz m (j + 1) (by omega)
    · omega
theorem kFb_b (b : Nat → Int32) (f : Nat) : kFb b f < 47 := by unfold kFb; split <;> decide
theorem kO_b (b : Nat → Int32) (L f to : Nat) : kO b L f to < 47 := by
  have := kdN_b b f (to - f) (kFb b f) (kFb_b b f) 47 0 rfl
  unfold kO
  split
  · decide
  · split
    · split
      · exact this
      · split
        · exact this
        · decide
    · split <;> decide
theorem kdT_b (b : Nat → Int32) (L i : Nat) : kdT b L i < 47 := by
  unfold kdT
  split
  · split <;> decide
  · exact kO_b ..
/-- where the tokens end -/
def ntN (b : Nat → Int32) (L : Nat) : Nat → Nat → Nat
  | 0, t => t
  | m + 1, t => if kdT b L t = 45 then t else if kdT b L t = 46 then t else ntN b L m (t + 1)
def ntT (b : Nat → Int32) (L : Nat) : Nat := ntN b L 400 0
def kkT (b : Nat → Int32) (L n : Nat) (kk : Nat → Option Nat) : Nat → Option Nat := upto n (fun i => some (kdT b L i)) kk
def saT (b : Nat → Int32) (L n : Nat) (sa : Nat → Int32) : Nat → Int32 := upto n (fun i => nI (frT b L i)) sa
def vsT (b : Nat → Int32) (L n : Nat) (vs : Nat → Int64) : Nat → Int64 := upto n (vaT b L) vs
theorem ra_H {σ : mxS} {tk tp L L0 : Nat} {bs : Nat → Int32} {xs : Nat → Int32} (H1 : 1000 ≤ tk) (H2 : tk + 4 ≤ 1000 + σ.2.1) (h1 : 1000 ≤ tp) (h2 : tp + 2 ≤ 1000 + σ.2.1) (ho : ∀ a, tp ≤ a → a < tp + 2 → ¬ (tk ≤ a ∧ a < tk + 4)) (hT : tpW σ tp bs (nI L) = σ) (hL : L ≤ 2000) (hK : ∀ a, a < 1000 → σ.1 a = mxkon L0 xs a) (kk : Nat → Option Nat) (sa : Nat → Int32) (vs : Nat → Int64) : tkC (tkW σ tk kk sa vs (.ref tp)) tk tp L bs := by
  refine ⟨⟨_, _, _, tk_g0 ..⟩, ?_, ⟨H1, by show tk < 1000 + σ.2.1; omega⟩, h1, h2, hL⟩
  refine tp_of _ tp bs (nI L) ?_ ?_
  · rw [tk_o _ _ _ _ _ _ (ho tp (Nat.le_refl _) (by omega))]
    exact (congrArg (fun z => z.1 tp) hT).symm.trans (tp_g0 ..)
  · rw [tk_o _ _ _ _ _ _ (ho (tp + 1) (by omega) (by omega))]
    exact (congrArg (fun z => z.1 (tp + 1)) hT).symm.trans (tp_g1 ..)
theorem ra_K {σ : mxS} {tk tp L L0 : Nat} {bs : Nat → Int32} {xs : Nat → Int32} (H1 : 1000 ≤ tk) (H2 : tk + 4 ≤ 1000 + σ.2.1) (h1 : 1000 ≤ tp) (h2 : tp + 2 ≤ 1000 + σ.2.1) (ho : ∀ a, tp ≤ a → a < tp + 2 → ¬ (tk ≤ a ∧ a < tk + 4)) (hT : tpW σ tp bs (nI L) = σ) (hL : L ≤ 2000) (hK : ∀ a, a < 1000 → σ.1 a = mxkon L0 xs a) (kk : Nat → Option Nat) (sa : Nat → Int32) (vs : Nat → Int64) : ∀ a, a < 1000 → (tkW σ tk kk sa vs (.ref tp)).1 a = mxkon L0 xs a := fun a ha => (tk_o _ _ _ _ _ _ (by omega)).trans (hK a ha)
theorem ra_M {k : Nat} (hk : k < 47) {σ : mxS} : mxelt σ 4 k = true := by simp [mxelt, hk]
theorem b45 : (45 < 47) = True := eq_true (by decide)
theorem b46 : (46 < 47) = True := eq_true (by decide)
theorem ra_x {d t : Nat} {x4 x5 : Option Value} {c : Int32} {σ : mxS} {tk : Nat} {tv : Value} {kk : Nat → Option Nat} {sa : Nat → Int32} {vs : Nat → Int64} (H1 : 1000 ≤ tk) (H2 : tk + 4 ≤ 1000 + σ.2.1) (ht : t ≤ 401) {Q : Option Value ⊕ Nat → mxS → Prop} : WP d 1025 6 [some (.ref tk), some (.int c), some (.int (nI 1)), some (.int (nI t)), x4, x5] [] (tkW σ tk kk sa vs tv) Q = Q (.inl none) (tkW σ tk kk sa vs tv) := by
  obtain ⟨b0, b1, b2, b3⟩ := tk_b H1 H2
  by_cases q : t = 401
  · subst q
    have hc : (nI 401 ≤ nI 401) = True := eq_true (nI_le (by omega) (by omega))
    conv => lhs; rw [WP_eq, s1025_6]
    simp only [WP_eq, e_go, e_none, e_ite, e_thr0, e_ret, e_thr, e_call, e_Kv, e_Kn, e_Kx, e_K2, e_K20, e_at0, e_s1_0, e_s2_0, e_at1, e_s1_1, e_s2_1, e_at2, e_s1_2, e_s2_2, e_at3, e_s1_3, e_s2_3, e_at4, e_s1_4, e_s2_4, e_at5, e_s1_5, e_s2_5, e_at6, e_s1_6, e_s2_6, e_at7, e_s1_7, e_s2_7, e_at8, e_s1_8, e_s2_8, e_at9, e_s1_9, e_s2_9, e_at10, e_s1_10, e_s2_10, e_at11, e_s1_11, e_s2_11, e_at12, e_s1_12, e_s2_12, e_at13, e_s1_13, e_s2_13, e_kn, e_ki, e_kj, e_kd, e_kr, e_k0, e_lI, e_lJ, e_lD, e_lA, e_lA0, e_sI, e_sJ, e_sD, e_sA, e_sA0, e_inc, e_I2, e_I2z, e_I1, e_I2J, e_J2I, e_I2D, e_J2, e_lcmp, e_dcmp, e_ddiv, e_ifeq, e_iceq, e_ifne, e_icne, e_iflt, e_iclt, e_ifge, e_icge, e_ifgt, e_icgt, e_ifle, e_icle, e_ca, e_ca2, e_en, e_en0, e_sw, e_lk0, e_lk, e_dup, e_dup2, e_pop, e_ci, e_cj, e_cd, e_cr, e_c0, e_gf, e_gf2, e_gf3, e_pf, e_pf2, e_f0, e_f1, e_f2, e_f20, e_len, e_len2, e_al, e_al2, e_al3, e_alJ, e_alJ2, e_alJ3, e_alA, e_alA2, e_alA3, e_as, e_as2, e_as3, e_asB, e_asB2, e_asJ, e_asJ2, e_asJ3, e_asA, e_asA2, e_asA3, e_new, e_na, e_na2, e_cat0, e_cat1, e_tk0, e_tk1, e_tk2, e_tk3, e_tk4, e_tk5, e_tk6, e_tk7, e_tk8, e_cS, e_cS2, e_cI_0, e_cI_1, e_cI_2, e_cI_3, e_cI_4, e_cI_5, e_cI2, e_cV_0, e_cV_1, e_cV_2, e_cV_3, e_cV_4, e_cV_5, e_cV_6, e_cV_7, e_cV2, e_cV3, e_oi, e_cp, e_r0, e_r1, e_r2, e_r3, e_r4, e_r5, e_r6, e_r60, e_r7, e_W1, e_W2, e_A1, e_A2, e_Wg, e_Ag, e_rf0, e_rf1, e_len0, e_len1, e_vl0, e_vl1, z00, z10, z11, ↓reduceIte, List.getElem?_cons_zero, List.getElem?_cons_succ, List.set_cons_zero, List.set_cons_succ, and_true, true_and, and_self, or_true, true_or, or_false, false_or, Nat.reduceAdd, Nat.reduceSub, Nat.reduceLT, Nat.reduceLeDiff, Nat.reduceEqDiff, Nat.reduceBEq, beq_self_eq_true, Bool.or_false, Bool.false_or, Bool.or_true, Bool.true_or, not_true, not_false_eq_true, reduceCtorEq, s1025_7, s1025_8, s1025_11, s1025_12, s1025_15, s1025_16, s1025_122, tk_n, tk_g0, tk_g1, tk_g2, tk_g3, tk_w1, tk_w2, tk_w3, b0, b1, b2, b3, hc]
  · have hc : ¬ nI 401 ≤ nI t := nI_ge (by omega) (by omega)
    conv => lhs; rw [WP_eq, s1025_6]
    simp only [WP_eq, e_go, e_none, e_ite, e_thr0, e_ret, e_thr, e_call, e_Kv, e_Kn, e_Kx, e_K2, e_K20, e_at0, e_s1_0, e_s2_0, e_at1, e_s1_1, e_s2_1, e_at2, e_s1_2, e_s2_2, e_at3, e_s1_3, e_s2_3, e_at4, e_s1_4, e_s2_4, e_at5, e_s1_5, e_s2_5, e_at6, e_s1_6, e_s2_6, e_at7, e_s1_7, e_s2_7, e_at8, e_s1_8, e_s2_8, e_at9, e_s1_9, e_s2_9, e_at10, e_s1_10, e_s2_10, e_at11, e_s1_11, e_s2_11, e_at12, e_s1_12, e_s2_12, e_at13, e_s1_13, e_s2_13, e_kn, e_ki, e_kj, e_kd, e_kr, e_k0, e_lI, e_lJ, e_lD, e_lA, e_lA0, e_sI, e_sJ, e_sD, e_sA, e_sA0, e_inc, e_I2, e_I2z, e_I1, e_I2J, e_J2I, e_I2D, e_J2, e_lcmp, e_dcmp, e_ddiv, e_ifeq, e_iceq, e_ifne, e_icne, e_iflt, e_iclt, e_ifge, e_icge, e_ifgt, e_icgt, e_ifle, e_icle, e_ca, e_ca2, e_en, e_en0, e_sw, e_lk0, e_lk, e_dup, e_dup2, e_pop, e_ci, e_cj, e_cd, e_cr, e_c0, e_gf, e_gf2, e_gf3, e_pf, e_pf2, e_f0, e_f1, e_f2, e_f20, e_len, e_len2, e_al, e_al2, e_al3, e_alJ, e_alJ2, e_alJ3, e_alA, e_alA2, e_alA3, e_as, e_as2, e_as3, e_asB, e_asB2, e_asJ, e_asJ2, e_asJ3, e_asA, e_asA2, e_asA3, e_new, e_na, e_na2, e_cat0, e_cat1, e_tk0, e_tk1, e_tk2, e_tk3, e_tk4, e_tk5, e_tk6, e_tk7, e_tk8, e_cS, e_cS2, e_cI_0, e_cI_1, e_cI_2, e_cI_3, e_cI_4, e_cI_5, e_cI2, e_cV_0, e_cV_1, e_cV_2, e_cV_3, e_cV_4, e_cV_5, e_cV_6, e_cV_7, e_cV2, e_cV3, e_oi, e_cp, e_r0, e_r1, e_r2, e_r3, e_r4, e_r5, e_r6, e_r60, e_r7, e_W1, e_W2, e_A1, e_A2, e_Wg, e_Ag, e_rf0, e_rf1, e_len0, e_len1, e_vl0, e_vl1, z00, z10, z11, ↓reduceIte, List.getElem?_cons_zero, List.getElem?_cons_succ, List.set_cons_zero, List.set_cons_succ, and_true, true_and, and_self, or_true, true_or, or_false, false_or, Nat.reduceAdd, Nat.reduceSub, Nat.reduceLT, Nat.reduceLeDiff, Nat.reduceEqDiff, Nat.reduceBEq, beq_self_eq_true, Bool.or_false, Bool.false_or, Bool.or_true, Bool.true_or, not_true, not_false_eq_true, reduceCtorEq, s1025_7, s1025_8, s1025_11, s1025_12, s1025_15, s1025_16, s1025_122, tk_n, tk_g0, tk_g1, tk_g2, tk_g3, tk_w1, tk_w2, tk_w3, b0, b1, b2, b3, hc, n1z]
theorem ra_s {d t : Nat} {x4 x5 : Option Value} {R : Prop} {σ : mxS} {tk tp L L0 : Nat} {bs : Nat → Int32} {xs : Nat → Int32} {kk : Nat → Option Nat} {sa : Nat → Int32} {vs : Nat → Int64} (H1 : 1000 ≤ tk) (H2 : tk + 4 ≤ 1000 + σ.2.1) (h1 : 1000 ≤ tp) (h2 : tp + 2 ≤ 1000 + σ.2.1) (ho : ∀ a, tp ≤ a → a < tp + 2 → ¬ (tk ≤ a ∧ a < tk + 4)) (hT : tpW σ tp bs (nI L) = σ) (hL : L ≤ 2000) (hK : ∀ a, a < 1000 → σ.1 a = mxkon L0 xs a) (ht : t ≤ 400) (hd : 6 ≤ d) {Q : Option Value ⊕ Nat → mxS → Prop} (e : WP d 1025 6 [some (.ref tk), some (.int (nI (cuT (bA bs L) L (t + 1)))), some (.int (if kdT (bA bs L) L t = 45 then nI 1 else if kdT (bA bs L) L t = 46 then nI 1 else nI 0)), some (.int (nI (t + 1))), some (.int (nI (cuT (bA bs L) L (t + 1)))), some (.ref (kdT (bA bs L) L t))] [] (tkW σ tk (va_up kk t (some (kdT (bA bs L) L t))) (va_up sa t (nI (frT (bA bs L) L t))) (va_up vs t (vaT (bA bs L) L t)) (.ref tp)) Q = R) : WP d 1025 6 [some (.ref tk), some (.int (nI (cuT (bA bs L) L t))), some (.int (nI 0)), some (.int (nI t)), x4, x5] [] (tkW σ tk kk sa vs (.ref tp)) Q = R := by
  obtain ⟨b0, b1, b2, b3⟩ := tk_b H1 H2
  have HH := ra_H H1 H2 h1 h2 ho hT hL hK
  have HK := ra_K H1 H2 h1 h2 ho hT hL hK
  have hd1 : 1 ≤ d := by omega
  have hd2 : 2 ≤ d - 1 := by omega
  have hd3 : 3 ≤ d - 1 := by omega
  have hd5 : 5 ≤ d - 1 := by omega
  have M45 := fun (σ : mxS) => ra_M (k := 45) (by decide) (σ := σ)
  have M46 := fun (σ : mxS) => ra_M (k := 46) (by decide) (σ := σ)
  have MK := fun (σ : mxS) => ra_M (kdT_b (bA bs L) L t) (σ := σ)
  have hc : ¬ nI 401 ≤ nI t := nI_ge (by omega) (by omega)
  have h4 : mxidx (nI t) 401 = some t := mxidx_nI (by omega) (by decide)
  have c1 := cuT_b (bA bs L) L t
  obtain ⟨c2, c3⟩ := frT_b (bA bs L) L t
  have c4 := cuT_b (bA bs L) L (t + 1)
  have f1 : eB (bA bs L) L (cuT (bA bs L) L t) = frT (bA bs L) L t := rfl
  have f2 := cuT_s (bA bs L) L t
  have fk := kdT_b (bA bs L) L t
  have e1 := fun kk sa vs (Q : Option Value ⊕ Nat → mxS → Prop) => t_eb (d := d - 1) (f := cuT (bA bs L) L t) (Q := Q) (HH kk sa vs) hd2 c1
  have e2 := fun kk sa vs (Q : Option Value ⊕ Nat → mxS → Prop) => t_et (d := d - 1) (f := frT (bA bs L) L t) (Q := Q) (HH kk sa vs) hd2 c2
  have e3 := fun kk sa vs (Q : Option Value ⊕ Nat → mxS → Prop) => t_kd (d := d - 1) (f := frT (bA bs L) L t) (to := cuT (bA bs L) L (t + 1)) (Q := Q) (HH kk sa vs) (HK kk sa vs) hd5 c3 c4
  have e4 := fun kk sa vs (Q : Option Value ⊕ Nat → mxS → Prop) => t_va (d := d - 1) (k := kdT (bA bs L) L t) (f := frT (bA bs L) L t) (to := cuT (bA bs L) L (t + 1)) (Q := Q) (HH kk sa vs) (HK kk sa vs) fk hd3 c3 (by omega)
  rw [f1] at e1
  rw [f2] at e2
  have fv : vO (bA bs L) (kdT (bA bs L) L t) (frT (bA bs L) L t) (cuT (bA bs L) L (t + 1)) = vaT (bA bs L) L t := rfl
  by_cases q : t = 400
  · subst q
    have u : kdT (bA bs L) L 400 = if kO (bA bs L) L (frT (bA bs L) L 400) (cuT (bA bs L) L (400 + 1)) = 45 then 45 else 46 := if_pos rfl
    by_cases r : kO (bA bs L) L (frT (bA bs L) L 400) (cuT (bA bs L) L (400 + 1)) = 45
    · rw [if_pos r] at u
      simp only [u, ↓reduceIte] at e e4 fk fv
      conv => lhs; rw [WP_eq, s1025_6]
      simp only [WP_eq, e_go, e_none, e_ite, e_thr0, e_ret, e_thr, e_call, e_Kv, e_Kn, e_Kx, e_K2, e_K20, e_at0, e_s1_0, e_s2_0, e_at1, e_s1_1, e_s2_1, e_at2, e_s1_2, e_s2_2, e_at3, e_s1_3, e_s2_3, e_at4, e_s1_4, e_s2_4, e_at5, e_s1_5, e_s2_5, e_at6, e_s1_6, e_s2_6, e_at7, e_s1_7, e_s2_7, e_at8, e_s1_8, e_s2_8, e_at9, e_s1_9, e_s2_9, e_at10, e_s1_10, e_s2_10, e_at11, e_s1_11, e_s2_11, e_at12, e_s1_12, e_s2_12, e_at13, e_s1_13, e_s2_13, e_kn, e_ki, e_kj, e_kd, e_kr, e_k0, e_lI, e_lJ, e_lD, e_lA, e_lA0, e_sI, e_sJ, e_sD, e_sA, e_sA0, e_inc, e_I2, e_I2z, e_I1, e_I2J, e_J2I, e_I2D, e_J2, e_lcmp, e_dcmp, e_ddiv, e_ifeq, e_iceq, e_ifne, e_icne, e_iflt, e_iclt, e_ifge, e_icge, e_ifgt, e_icgt, e_ifle, e_icle, e_ca, e_ca2, e_en, e_en0, e_sw, e_lk0, e_lk, e_dup, e_dup2, e_pop, e_ci, e_cj, e_cd, e_cr, e_c0, e_gf, e_gf2, e_gf3, e_pf, e_pf2, e_f0, e_f1, e_f2, e_f20, e_len, e_len2, e_al, e_al2, e_al3, e_alJ, e_alJ2, e_alJ3, e_alA, e_alA2, e_alA3, e_as, e_as2, e_as3, e_asB, e_asB2, e_asJ, e_asJ2, e_asJ3, e_asA, e_asA2, e_asA3, e_new, e_na, e_na2, e_cat0, e_cat1, e_tk0, e_tk1, e_tk2, e_tk3, e_tk4, e_tk5, e_tk6, e_tk7, e_tk8, e_cS, e_cS2, e_cI_0, e_cI_1, e_cI_2, e_cI_3, e_cI_4, e_cI_5, e_cI2, e_cV_0, e_cV_1, e_cV_2, e_cV_3, e_cV_4, e_cV_5, e_cV_6, e_cV_7, e_cV2, e_cV3, e_oi, e_cp, e_r0, e_r1, e_r2, e_r3, e_r4, e_r5, e_r6, e_r60, e_r7, e_W1, e_W2, e_A1, e_A2, e_Wg, e_Ag, e_rf0, e_rf1, e_len0, e_len1, e_vl0, e_vl1, z00, z10, z11, ↓reduceIte, List.getElem?_cons_zero, List.getElem?_cons_succ, List.set_cons_zero, List.set_cons_succ, and_true, true_and, and_self, or_true, true_or, or_false, false_or, Nat.reduceAdd, Nat.reduceSub, Nat.reduceLT, Nat.reduceLeDiff, Nat.reduceEqDiff, Nat.reduceBEq, beq_self_eq_true, Bool.or_false, Bool.false_or, Bool.or_true, Bool.true_or, not_true, not_false_eq_true, reduceCtorEq, s1025_7, s1025_8, s1025_11, s1025_12, s1025_15, s1025_16, s1025_19, s1025_20, s1025_21, s1025_24, s1025_25, s1025_26, s1025_27, s1025_30, s1025_32, s1025_33, s1025_34, s1025_36, s1025_39, s1025_41, s1025_42, s1025_45, s1025_48, s1025_50, s1025_53, s1025_56, s1025_59, s1025_61, s1025_62, s1025_65, s1025_66, s1025_68, s1025_69, s1025_70, s1025_73, s1025_74, s1025_75, s1025_76, s1025_77, s1025_80, s1025_81, s1025_82, s1025_84, s1025_85, s1025_87, s1025_90, s1025_91, s1025_93, s1025_96, s1025_99, s1025_101, s1025_104, s1025_107, s1025_108, s1025_111, s1025_112, s1025_113, s1025_115, s1025_116, s1025_119, tk_n, tk_g0, tk_g1, tk_g2, tk_g3, tk_w1, tk_w2, tk_w3, b0, b1, b2, b3, hc, hd1, cal (n1026 _ _) (e1 ..), cal (n1027 _ _) (e2 ..), cal (n1028 _ _ _) (e3 ..), r, M45, M46, b45, b46, h4, cal (n1030 _ _ _ _) (e4 ..), fv, nIi, decide_eq_true_eq, decide_eq_false_iff_not, Option.some.injEq, Nat.reduceAdd]
      exact stk e
    · rw [if_neg r] at u
      simp only [u, Nat.reduceEqDiff, ↓reduceIte] at e e4 fk fv
      have fk0 := kO_b (bA bs L) L (frT (bA bs L) L 400) (cuT (bA bs L) L (400 + 1))
      conv => lhs; rw [WP_eq, s1025_6]
      simp only [WP_eq, e_go, e_none, e_ite, e_thr0, e_ret, e_thr, e_call, e_Kv, e_Kn, e_Kx, e_K2, e_K20, e_at0, e_s1_0, e_s2_0, e_at1, e_s1_1, e_s2_1, e_at2, e_s1_2, e_s2_2, e_at3, e_s1_3, e_s2_3, e_at4, e_s1_4, e_s2_4, e_at5, e_s1_5, e_s2_5, e_at6, e_s1_6, e_s2_6, e_at7, e_s1_7, e_s2_7, e_at8, e_s1_8, e_s2_8, e_at9, e_s1_9, e_s2_9, e_at10, e_s1_10, e_s2_10, e_at11, e_s1_11, e_s2_11, e_at12, e_s1_12, e_s2_12, e_at13, e_s1_13, e_s2_13, e_kn, e_ki, e_kj, e_kd, e_kr, e_k0, e_lI, e_lJ, e_lD, e_lA, e_lA0, e_sI, e_sJ, e_sD, e_sA, e_sA0, e_inc, e_I2, e_I2z, e_I1, e_I2J, e_J2I, e_I2D, e_J2, e_lcmp, e_dcmp, e_ddiv, e_ifeq, e_iceq, e_ifne, e_icne, e_iflt, e_iclt, e_ifge, e_icge, e_ifgt, e_icgt, e_ifle, e_icle, e_ca, e_ca2, e_en, e_en0, e_sw, e_lk0, e_lk, e_dup, e_dup2, e_pop, e_ci, e_cj, e_cd, e_cr, e_c0, e_gf, e_gf2, e_gf3, e_pf, e_pf2, e_f0, e_f1, e_f2, e_f20, e_len, e_len2, e_al, e_al2, e_al3, e_alJ, e_alJ2, e_alJ3, e_alA, e_alA2, e_alA3, e_as, e_as2, e_as3, e_asB, e_asB2, e_asJ, e_asJ2, e_asJ3, e_asA, e_asA2, e_asA3, e_new, e_na, e_na2, e_cat0, e_cat1, e_tk0, e_tk1, e_tk2, e_tk3, e_tk4, e_tk5, e_tk6, e_tk7, e_tk8, e_cS, e_cS2, e_cI_0, e_cI_1, e_cI_2, e_cI_3, e_cI_4, e_cI_5, e_cI2, e_cV_0, e_cV_1, e_cV_2, e_cV_3, e_cV_4, e_cV_5, e_cV_6, e_cV_7, e_cV2, e_cV3, e_oi, e_cp, e_r0, e_r1, e_r2, e_r3, e_r4, e_r5, e_r6, e_r60, e_r7, e_W1, e_W2, e_A1, e_A2, e_Wg, e_Ag, e_rf0, e_rf1, e_len0, e_len1, e_vl0, e_vl1, z00, z10, z11, ↓reduceIte, List.getElem?_cons_zero, List.getElem?_cons_succ, List.set_cons_zero, List.set_cons_succ, and_true, true_and, and_self, or_true, true_or, or_false, false_or, Nat.reduceAdd, Nat.reduceSub, Nat.reduceLT, Nat.reduceLeDiff, Nat.reduceEqDiff, Nat.reduceBEq, beq_self_eq_true, Bool.or_false, Bool.false_or, Bool.or_true, Bool.true_or, not_true, not_false_eq_true, reduceCtorEq, s1025_7, s1025_8, s1025_11, s1025_12, s1025_15, s1025_16, s1025_19, s1025_20, s1025_21, s1025_24, s1025_25, s1025_26, s1025_27, s1025_30, s1025_32, s1025_33, s1025_34, s1025_36, s1025_39, s1025_41, s1025_42, s1025_45, s1025_48, s1025_50, s1025_53, s1025_56, s1025_59, s1025_61, s1025_62, s1025_65, s1025_66, s1025_68, s1025_69, s1025_70, s1025_73, s1025_74, s1025_75, s1025_76, s1025_77, s1025_80, s1025_81, s1025_82, s1025_84, s1025_85, s1025_87, s1025_90, s1025_91, s1025_93, s1025_96, s1025_99, s1025_101, s1025_104, s1025_107, s1025_108, s1025_111, s1025_112, s1025_113, s1025_115, s1025_116, s1025_119, tk_n, tk_g0, tk_g1, tk_g2, tk_g3, tk_w1, tk_w2, tk_w3, b0, b1, b2, b3, hc, hd1, cal (n1026 _ _) (e1 ..), cal (n1027 _ _) (e2 ..), cal (n1028 _ _ _) (e3 ..), r, fk0, M45, M46, b45, b46, h4, cal (n1030 _ _ _ _) (e4 ..), fv, nIi, decide_eq_true_eq, decide_eq_false_iff_not, Option.some.injEq, Nat.reduceAdd]
      exact stk e
  · have u : kdT (bA bs L) L t = kO (bA bs L) L (frT (bA bs L) L t) (cuT (bA bs L) L (t + 1)) := if_neg q
    have q4 : (nI t = nI 400) = False := eq_false (fun z => q ((nI_eq (by omega) (by omega)).mp z))
    rw [← u] at e3
    by_cases r : kdT (bA bs L) L t = 45
    · simp only [r, ↓reduceIte] at e e3 e4 fk fv
      conv => lhs; rw [WP_eq, s1025_6]
      simp only [WP_eq, e_go, e_none, e_ite, e_thr0, e_ret, e_thr, e_call, e_Kv, e_Kn, e_Kx, e_K2, e_K20, e_at0, e_s1_0, e_s2_0, e_at1, e_s1_1, e_s2_1, e_at2, e_s1_2, e_s2_2, e_at3, e_s1_3, e_s2_3, e_at4, e_s1_4, e_s2_4, e_at5, e_s1_5, e_s2_5, e_at6, e_s1_6, e_s2_6, e_at7, e_s1_7, e_s2_7, e_at8, e_s1_8, e_s2_8, e_at9, e_s1_9, e_s2_9, e_at10, e_s1_10, e_s2_10, e_at11, e_s1_11, e_s2_11, e_at12, e_s1_12, e_s2_12, e_at13, e_s1_13, e_s2_13, e_kn, e_ki, e_kj, e_kd, e_kr, e_k0, e_lI, e_lJ, e_lD, e_lA, e_lA0, e_sI, e_sJ, e_sD, e_sA, e_sA0, e_inc, e_I2, e_I2z, e_I1, e_I2J, e_J2I, e_I2D, e_J2, e_lcmp, e_dcmp, e_ddiv, e_ifeq, e_iceq, e_ifne, e_icne, e_iflt, e_iclt, e_ifge, e_icge, e_ifgt, e_icgt, e_ifle, e_icle, e_ca, e_ca2, e_en, e_en0, e_sw, e_lk0, e_lk, e_dup, e_dup2, e_pop, e_ci, e_cj, e_cd, e_cr, e_c0, e_gf, e_gf2, e_gf3, e_pf, e_pf2, e_f0, e_f1, e_f2, e_f20, e_len, e_len2, e_al, e_al2, e_al3, e_alJ, e_alJ2, e_alJ3, e_alA, e_alA2, e_alA3, e_as, e_as2, e_as3, e_asB, e_asB2, e_asJ, e_asJ2, e_asJ3, e_asA, e_asA2, e_asA3, e_new, e_na, e_na2, e_cat0, e_cat1, e_tk0, e_tk1, e_tk2, e_tk3, e_tk4, e_tk5, e_tk6, e_tk7, e_tk8, e_cS, e_cS2, e_cI_0, e_cI_1, e_cI_2, e_cI_3, e_cI_4, e_cI_5, e_cI2, e_cV_0, e_cV_1, e_cV_2, e_cV_3, e_cV_4, e_cV_5, e_cV_6, e_cV_7, e_cV2, e_cV3, e_oi, e_cp, e_r0, e_r1, e_r2, e_r3, e_r4, e_r5, e_r6, e_r60, e_r7, e_W1, e_W2, e_A1, e_A2, e_Wg, e_Ag, e_rf0, e_rf1, e_len0, e_len1, e_vl0, e_vl1, z00, z10, z11, ↓reduceIte, List.getElem?_cons_zero, List.getElem?_cons_succ, List.set_cons_zero, List.set_cons_succ, and_true, true_and, and_self, or_true, true_or, or_false, false_or, Nat.reduceAdd, Nat.reduceSub, Nat.reduceLT, Nat.reduceLeDiff, Nat.reduceEqDiff, Nat.reduceBEq, beq_self_eq_true, Bool.or_false, Bool.false_or, Bool.or_true, Bool.true_or, not_true, not_false_eq_true, reduceCtorEq, s1025_7, s1025_8, s1025_11, s1025_12, s1025_15, s1025_16, s1025_19, s1025_20, s1025_21, s1025_24, s1025_25, s1025_26, s1025_27, s1025_30, s1025_32, s1025_33, s1025_34, s1025_36, s1025_39, s1025_41, s1025_42, s1025_45, s1025_48, s1025_50, s1025_53, s1025_56, s1025_59, s1025_61, s1025_62, s1025_65, s1025_66, s1025_68, s1025_69, s1025_70, s1025_73, s1025_74, s1025_75, s1025_76, s1025_77, s1025_80, s1025_81, s1025_82, s1025_84, s1025_85, s1025_87, s1025_90, s1025_91, s1025_93, s1025_96, s1025_99, s1025_101, s1025_104, s1025_107, s1025_108, s1025_111, s1025_112, s1025_113, s1025_115, s1025_116, s1025_119, tk_n, tk_g0, tk_g1, tk_g2, tk_g3, tk_w1, tk_w2, tk_w3, b0, b1, b2, b3, hc, hd1, cal (n1026 _ _) (e1 ..), cal (n1027 _ _) (e2 ..), cal (n1028 _ _ _) (e3 ..), q4, h4, cal (n1030 _ _ _ _) (e4 ..), fv, M45, b45, nIi, decide_eq_true_eq, decide_eq_false_iff_not, Option.some.injEq, Nat.reduceAdd]
      exact stk e
    · rw [if_neg r] at e
      by_cases r2 : kdT (bA bs L) L t = 46
      · simp only [r2, Nat.reduceEqDiff, ↓reduceIte] at e e3 e4 fk fv
        conv => lhs; rw [WP_eq, s1025_6]
        simp only [WP_eq, e_go, e_none, e_ite, e_thr0, e_ret, e_thr, e_call, e_Kv, e_Kn, e_Kx, e_K2, e_K20, e_at0, e_s1_0, e_s2_0, e_at1, e_s1_1, e_s2_1, e_at2, e_s1_2, e_s2_2, e_at3, e_s1_3, e_s2_3, e_at4, e_s1_4, e_s2_4, e_at5, e_s1_5, e_s2_5, e_at6, e_s1_6, e_s2_6, e_at7, e_s1_7, e_s2_7, e_at8, e_s1_8, e_s2_8, e_at9, e_s1_9, e_s2_9, e_at10, e_s1_10, e_s2_10, e_at11, e_s1_11, e_s2_11, e_at12, e_s1_12, e_s2_12, e_at13, e_s1_13, e_s2_13, e_kn, e_ki, e_kj, e_kd, e_kr, e_k0, e_lI, e_lJ, e_lD, e_lA, e_lA0, e_sI, e_sJ, e_sD, e_sA, e_sA0, e_inc, e_I2, e_I2z, e_I1, e_I2J, e_J2I, e_I2D, e_J2, e_lcmp, e_dcmp, e_ddiv, e_ifeq, e_iceq, e_ifne, e_icne, e_iflt, e_iclt, e_ifge, e_icge, e_ifgt, e_icgt, e_ifle, e_icle, e_ca, e_ca2, e_en, e_en0, e_sw, e_lk0, e_lk, e_dup, e_dup2, e_pop, e_ci, e_cj, e_cd, e_cr, e_c0, e_gf, e_gf2, e_gf3, e_pf, e_pf2, e_f0, e_f1, e_f2, e_f20, e_len, e_len2, e_al, e_al2, e_al3, e_alJ, e_alJ2, e_alJ3, e_alA, e_alA2, e_alA3, e_as, e_as2, e_as3, e_asB, e_asB2, e_asJ, e_asJ2, e_asJ3, e_asA, e_asA2, e_asA3, e_new, e_na, e_na2, e_cat0, e_cat1, e_tk0, e_tk1, e_tk2, e_tk3, e_tk4, e_tk5, e_tk6, e_tk7, e_tk8, e_cS, e_cS2, e_cI_0, e_cI_1, e_cI_2, e_cI_3, e_cI_4, e_cI_5, e_cI2, e_cV_0, e_cV_1, e_cV_2, e_cV_3, e_cV_4, e_cV_5, e_cV_6, e_cV_7, e_cV2, e_cV3, e_oi, e_cp, e_r0, e_r1, e_r2, e_r3, e_r4, e_r5, e_r6, e_r60, e_r7, e_W1, e_W2, e_A1, e_A2, e_Wg, e_Ag, e_rf0, e_rf1, e_len0, e_len1, e_vl0, e_vl1, z00, z10, z11, ↓reduceIte, List.getElem?_cons_zero, List.getElem?_cons_succ, List.set_cons_zero, List.set_cons_succ, and_true, true_and, and_self, or_true, true_or, or_false, false_or, Nat.reduceAdd, Nat.reduceSub, Nat.reduceLT, Nat.reduceLeDiff, Nat.reduceEqDiff, Nat.reduceBEq, beq_self_eq_true, Bool.or_false, Bool.false_or, Bool.or_true, Bool.true_or, not_true, not_false_eq_true, reduceCtorEq, s1025_7, s1025_8, s1025_11, s1025_12, s1025_15, s1025_16, s1025_19, s1025_20, s1025_21, s1025_24, s1025_25, s1025_26, s1025_27, s1025_30, s1025_32, s1025_33, s1025_34, s1025_36, s1025_39, s1025_41, s1025_42, s1025_45, s1025_48, s1025_50, s1025_53, s1025_56, s1025_59, s1025_61, s1025_62, s1025_65, s1025_66, s1025_68, s1025_69, s1025_70, s1025_73, s1025_74, s1025_75, s1025_76, s1025_77, s1025_80, s1025_81, s1025_82, s1025_84, s1025_85, s1025_87, s1025_90, s1025_91, s1025_93, s1025_96, s1025_99, s1025_101, s1025_104, s1025_107, s1025_108, s1025_111, s1025_112, s1025_113, s1025_115, s1025_116, s1025_119, tk_n, tk_g0, tk_g1, tk_g2, tk_g3, tk_w1, tk_w2, tk_w3, b0, b1, b2, b3, hc, hd1, cal (n1026 _ _) (e1 ..), cal (n1027 _ _) (e2 ..), cal (n1028 _ _ _) (e3 ..), q4, h4, cal (n1030 _ _ _ _) (e4 ..), fv, M46, b46, nIi, decide_eq_true_eq, decide_eq_false_iff_not, Option.some.injEq, Nat.reduceAdd]
        exact stk e
      · rw [if_neg r2] at e
        conv => lhs; rw [WP_eq, s1025_6]
        simp only [WP_eq, e_go, e_none, e_ite, e_thr0, e_ret, e_thr, e_call, e_Kv, e_Kn, e_Kx, e_K2, e_K20, e_at0, e_s1_0, e_s2_0, e_at1, e_s1_1, e_s2_1, e_at2, e_s1_2, e_s2_2, e_at3, e_s1_3, e_s2_3, e_at4, e_s1_4, e_s2_4, e_at5, e_s1_5, e_s2_5, e_at6, e_s1_6, e_s2_6, e_at7, e_s1_7, e_s2_7, e_at8, e_s1_8, e_s2_8, e_at9, e_s1_9, e_s2_9, e_at10, e_s1_10, e_s2_10, e_at11, e_s1_11, e_s2_11, e_at12, e_s1_12, e_s2_12, e_at13, e_s1_13, e_s2_13, e_kn, e_ki, e_kj, e_kd, e_kr, e_k0, e_lI, e_lJ, e_lD, e_lA, e_lA0, e_sI, e_sJ, e_sD, e_sA, e_sA0, e_inc, e_I2, e_I2z, e_I1, e_I2J, e_J2I, e_I2D, e_J2, e_lcmp, e_dcmp, e_ddiv, e_ifeq, e_iceq, e_ifne, e_icne, e_iflt, e_iclt, e_ifge, e_icge, e_ifgt, e_icgt, e_ifle, e_icle, e_ca, e_ca2, e_en, e_en0, e_sw, e_lk0, e_lk, e_dup, e_dup2, e_pop, e_ci, e_cj, e_cd, e_cr, e_c0, e_gf, e_gf2, e_gf3, e_pf, e_pf2, e_f0, e_f1, e_f2, e_f20, e_len, e_len2, e_al, e_al2, e_al3, e_alJ, e_alJ2, e_alJ3, e_alA, e_alA2, e_alA3, e_as, e_as2, e_as3, e_asB, e_asB2, e_asJ, e_asJ2, e_asJ3, e_asA, e_asA2, e_asA3, e_new, e_na, e_na2, e_cat0, e_cat1, e_tk0, e_tk1, e_tk2, e_tk3, e_tk4, e_tk5, e_tk6, e_tk7, e_tk8, e_cS, e_cS2, e_cI_0, e_cI_1, e_cI_2, e_cI_3, e_cI_4, e_cI_5, e_cI2, e_cV_0, e_cV_1, e_cV_2, e_cV_3, e_cV_4, e_cV_5, e_cV_6, e_cV_7, e_cV2, e_cV3, e_oi, e_cp, e_r0, e_r1, e_r2, e_r3, e_r4, e_r5, e_r6, e_r60, e_r7, e_W1, e_W2, e_A1, e_A2, e_Wg, e_Ag, e_rf0, e_rf1, e_len0, e_len1, e_vl0, e_vl1, z00, z10, z11, ↓reduceIte, List.getElem?_cons_zero, List.getElem?_cons_succ, List.set_cons_zero, List.set_cons_succ, and_true, true_and, and_self, or_true, true_or, or_false, false_or, Nat.reduceAdd, Nat.reduceSub, Nat.reduceLT, Nat.reduceLeDiff, Nat.reduceEqDiff, Nat.reduceBEq, beq_self_eq_true, Bool.or_false, Bool.false_or, Bool.or_true, Bool.true_or, not_true, not_false_eq_true, reduceCtorEq, s1025_7, s1025_8, s1025_11, s1025_12, s1025_15, s1025_16, s1025_19, s1025_20, s1025_21, s1025_24, s1025_25, s1025_26, s1025_27, s1025_30, s1025_32, s1025_33, s1025_34, s1025_36, s1025_39, s1025_41, s1025_42, s1025_45, s1025_48, s1025_50, s1025_53, s1025_56, s1025_59, s1025_61, s1025_62, s1025_65, s1025_66, s1025_68, s1025_69, s1025_70, s1025_73, s1025_74, s1025_75, s1025_76, s1025_77, s1025_80, s1025_81, s1025_82, s1025_84, s1025_85, s1025_87, s1025_90, s1025_91, s1025_93, s1025_96, s1025_99, s1025_101, s1025_104, s1025_107, s1025_108, s1025_111, s1025_112, s1025_113, s1025_115, s1025_116, s1025_119, tk_n, tk_g0, tk_g1, tk_g2, tk_g3, tk_w1, tk_w2, tk_w3, b0, b1, b2, b3, hc, hd1, cal (n1026 _ _) (e1 ..), cal (n1027 _ _) (e2 ..), cal (n1028 _ _ _) (e3 ..), q4, h4, cal (n1030 _ _ _ _) (e4 ..), fv, r, r2, MK, fk, nIi, decide_eq_true_eq, decide_eq_false_iff_not, Option.some.injEq, Nat.reduceAdd]
        exact stk e
theorem kdT_400 (b : Nat → Int32) (L : Nat) : kdT b L 400 = 45 ∨ kdT b L 400 = 46 := by
  unfold kdT
  rw [if_pos rfl]
  split <;> simp
theorem ra_l {d : Nat} {L L0 tk tp : Nat} {bs xs : Nat → Int32} (hd : 6 ≤ d) {σ : mxS} (H1 : 1000 ≤ tk) (H2 : tk + 4 ≤ 1000 + σ.2.1) (h1 : 1000 ≤ tp) (h2 : tp + 2 ≤ 1000 + σ.2.1) (ho : ∀ a, tp ≤ a → a < tp + 2 → ¬ (tk ≤ a ∧ a < tk + 4)) (hT : tpW σ tp bs (nI L) = σ) (hL : L ≤ 2000) (hK : ∀ a, a < 1000 → σ.1 a = mxkon L0 xs a) {Q : Option Value ⊕ Nat → mxS → Prop} (kk : Nat → Option Nat) (sa : Nat → Int32) (vs : Nat → Int64) : ∀ m t, t + m = 400 → ∀ x4 x5 : Option Value, WP d 1025 6 [some (.ref tk), some (.int (nI (cuT (bA bs L) L t))), some (.int (nI 0)), some (.int (nI t)), x4, x5] [] (tkW σ tk (kkT (bA bs L) L t kk) (saT (bA bs L) L t sa) (vsT (bA bs L) L t vs) (.ref tp)) Q = Q (.inl none) (tkW σ tk (kkT (bA bs L) L (ntN (bA bs L) L m t + 1) kk) (saT (bA bs L) L (ntN (bA bs L) L m t + 1) sa) (vsT (bA bs L) L (ntN (bA bs L) L m t + 1) vs) (.ref tp)) := by
  intro m
  induction m with
  | zero =>
    intro t ht x4 x5
    have ht : t = 400 := ht
    subst ht
    refine ra_s H1 H2 h1 h2 ho hT hL hK (by omega) hd ?_
    have : (if kdT (bA bs L) L 400 = 45 then nI 1 else if kdT (bA bs L) L 400 = 46 then nI 1 else nI 0) = nI 1 := by
      rcases kdT_400 (bA bs L) L with h | h <;> rw [h] <;> rfl
    rw [this, ra_x H1 H2 (by omega)]
    rw [kkT, saT, vsT, upto_s 400 (fun i => some (kdT (bA bs L) L i)), upto_s 400 (fun i => nI (frT (bA bs L) L i)), upto_s]
    rfl
  | succ m ih =>
    intro t ht x4 x5
    refine ra_s H1 H2 h1 h2 ho hT hL hK (by omega) hd ?_
    rw [kkT, saT, vsT, upto_s t (fun i => some (kdT (bA bs L) L i)), upto_s t (fun i => nI (frT (bA bs L) L i)), upto_s, ntN]
    by_cases r : kdT (bA bs L) L t = 45
    · rw [if_pos r, if_pos r, ra_x H1 H2 (by omega)]
      rfl
    · rw [if_neg r, if_neg r]
      by_cases r2 : kdT (bA bs L) L t = 46
      · rw [if_pos r2, if_pos r2, ra_x H1 H2 (by omega)]
        rfl
      · rw [if_neg r2, if_neg r2]
        exact ih (t + 1) (by omega) _ _
theorem t_all {d : Nat} {L L0 tk tp : Nat} {bs xs : Nat → Int32} (hd : 6 ≤ d) {σ : mxS} (H1 : 1000 ≤ tk) (H2 : tk + 4 ≤ 1000 + σ.2.1) (h1 : 1000 ≤ tp) (h2 : tp + 2 ≤ 1000 + σ.2.1) (ho : ∀ a, tp ≤ a → a < tp + 2 → ¬ (tk ≤ a ∧ a < tk + 4)) (hT : tpW σ tp bs (nI L) = σ) (hL : L ≤ 2000) (hK : ∀ a, a < 1000 → σ.1 a = mxkon L0 xs a) {Q : Option Value ⊕ Nat → mxS → Prop} (kk : Nat → Option Nat) (sa : Nat → Int32) (vs : Nat → Int64) : WP d 1025 0 [some (.ref tk), none, none, none, none, none] [] (tkW σ tk kk sa vs (.ref tp)) Q = Q (.inl none) (tkW σ tk (kkT (bA bs L) L (ntT (bA bs L) L + 1) kk) (saT (bA bs L) L (ntT (bA bs L) L + 1) sa) (vsT (bA bs L) L (ntT (bA bs L) L + 1) vs) (.ref tp)) := by
  have e := ra_l (d := d) (Q := Q) hd H1 H2 h1 h2 ho hT hL hK kk sa vs 400 0 rfl none none
  rw [kkT, saT, vsT, upto_0, upto_0, upto_0] at e
  conv => lhs; rw [WP_eq, s1025_0]
  simp only [WP_eq, e_go, e_none, e_ite, e_thr0, e_ret, e_thr, e_call, e_Kv, e_Kn, e_Kx, e_K2, e_K20, e_at0, e_s1_0, e_s2_0, e_at1, e_s1_1, e_s2_1, e_at2, e_s1_2, e_s2_2, e_at3, e_s1_3, e_s2_3, e_at4, e_s1_4, e_s2_4, e_at5, e_s1_5, e_s2_5, e_at6, e_s1_6, e_s2_6, e_at7, e_s1_7, e_s2_7, e_at8, e_s1_8, e_s2_8, e_at9, e_s1_9, e_s2_9, e_at10, e_s1_10, e_s2_10, e_at11, e_s1_11, e_s2_11, e_at12, e_s1_12, e_s2_12, e_at13, e_s1_13, e_s2_13, e_kn, e_ki, e_kj, e_kd, e_kr, e_k0, e_lI, e_lJ, e_lD, e_lA, e_lA0, e_sI, e_sJ, e_sD, e_sA, e_sA0, e_inc, e_I2, e_I2z, e_I1, e_I2J, e_J2I, e_I2D, e_J2, e_lcmp, e_dcmp, e_ddiv, e_ifeq, e_iceq, e_ifne, e_icne, e_iflt, e_iclt, e_ifge, e_icge, e_ifgt, e_icgt, e_ifle, e_icle, e_ca, e_ca2, e_en, e_en0, e_sw, e_lk0, e_lk, e_dup, e_dup2, e_pop, e_ci, e_cj, e_cd, e_cr, e_c0, e_gf, e_gf2, e_gf3, e_pf, e_pf2, e_f0, e_f1, e_f2, e_f20, e_len, e_len2, e_al, e_al2, e_al3, e_alJ, e_alJ2, e_alJ3, e_alA, e_alA2, e_alA3, e_as, e_as2, e_as3, e_asB, e_asB2, e_asJ, e_asJ2, e_asJ3, e_asA, e_asA2, e_asA3, e_new, e_na, e_na2, e_cat0, e_cat1, e_tk0, e_tk1, e_tk2, e_tk3, e_tk4, e_tk5, e_tk6, e_tk7, e_tk8, e_cS, e_cS2, e_cI_0, e_cI_1, e_cI_2, e_cI_3, e_cI_4, e_cI_5, e_cI2, e_cV_0, e_cV_1, e_cV_2, e_cV_3, e_cV_4, e_cV_5, e_cV_6, e_cV_7, e_cV2, e_cV3, e_oi, e_cp, e_r0, e_r1, e_r2, e_r3, e_r4, e_r5, e_r6, e_r60, e_r7, e_W1, e_W2, e_A1, e_A2, e_Wg, e_Ag, e_rf0, e_rf1, e_len0, e_len1, e_vl0, e_vl1, z00, z10, z11, ↓reduceIte, List.getElem?_cons_zero, List.getElem?_cons_succ, List.set_cons_zero, List.set_cons_succ, and_true, true_and, and_self, or_true, true_or, or_false, false_or, Nat.reduceAdd, Nat.reduceSub, Nat.reduceLT, Nat.reduceLeDiff, Nat.reduceEqDiff, Nat.reduceBEq, beq_self_eq_true, Bool.or_false, Bool.false_or, Bool.or_true, Bool.true_or, not_true, not_false_eq_true, reduceCtorEq, s1025_1, s1025_2, s1025_3, s1025_4, s1025_5]
  exact stk e

