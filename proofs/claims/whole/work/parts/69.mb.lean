/-! ===== the reference along the grammar: lines, the whole ===== -/
def obN : List PA → Nat
  | [] => 0
  | a :: t => (if a.1 = 15 then 1 else 0) + obN t
theorem obN_app : ∀ s t, obN (s ++ t) = obN s + obN t
  | [], t => by simp [obN]
  | a :: s, t => by simp only [List.cons_append, obN, obN_app s t]; omega
theorem obN_eT : ∀ t : List PA, aA t → obN t = 0
  | [], _ => rfl
  | a :: t, h => by
    have h1 := h a (List.mem_cons_self ..)
    rw [obN, obN_eT t (fun b hb => h b (List.mem_cons_of_mem _ hb)), if_neg (by unfold eT at h1; omega)]
theorem run_or (num : Nat → Int32) : ∀ (t : List PA) (R : MR), rOr (runR num R t) = rOr R + obN t
  | [], R => rfl
  | a :: t, R => by
    show rOr (runR num (stepR num R a) t) = _
    rw [run_or num t, obN]
    have : rOr (stepR num R a) = rOr R + if a.1 = 15 then 1 else 0 := by
      obtain ⟨c, x, y, z⟩ := a
      unfold stepR
      dsimp only
      split <;> first | rfl | skip
      rw [if_neg (by
        intro h
        have h' : c = 15 := h
        subst h'
        simp_all)]
      rfl
    omega
def pO (p : Nat → PR) : Prop := ∀ i, obN (p i).2 ≤ skN (p i).2
theorem o_seq {i : Nat} {a : PR} {f : Nat → PR} (ha : obN a.2 ≤ skN a.2) (hf : pO f) : obN (pSeq i a f).2 ≤ skN (pSeq i a f).2 := by
  unfold pSeq
  split
  · show obN (a.2 ++ (f (i + skN a.2)).2) ≤ skN (a.2 ++ (f (i + skN a.2)).2)
    rw [obN_app, skN_app]
    have := hf (i + skN a.2)
    omega
  · exact ha
theorem o_zero {t : List PA} (h : obN t = 0) : obN t ≤ skN t := by omega
theorem o_as {kd : Nat → Nat} {k r : Nat} {t : List PA} (ht : obN t = 0) : pO (pAs kd k r t) := by
  intro i
  unfold pAs
  split
  · refine o_zero ?_
    show 0 + obN (t ++ [aSk]) = 0
    rw [obN_app, ht]
    rfl
  · exact o_zero rfl
theorem o_take {kd : Nat → Nat} {k : Nat} : pO (pTake kd k) := fun i => o_zero (obN_eT _ (a_take i))
theorem o_line {kd : Nat → Nat} : pO (pLine kd) := by
  intro i
  unfold pLine
  split
  · refine o_seq (by decide) (fun j => o_seq ?_ (fun l => o_seq (o_zero rfl) (fun m => o_seq ?_ (fun q => o_zero rfl))))
    · split
      · exact o_seq (o_as rfl j) (fun l => o_seq (o_zero rfl) (fun m => by
          unfold pSide
          split
          · exact o_zero rfl
          · exact o_zero rfl))
      · exact o_zero (obN_eT _ ((a_lev 8).2 j))
    · unfold pWhen
      split
      · exact o_seq (o_zero rfl) (fun l => o_zero (obN_eT _ ((a_tev 8).2 l)))
      · exact o_zero rfl
  · exact o_seq (o_take i) (fun j => o_seq (o_as rfl j) (fun l => o_seq (o_take l) (fun m => o_seq (o_as rfl m) (fun o => o_seq (o_take o) (fun q => o_seq (o_as rfl q) (fun _ => o_zero rfl))))))
theorem d_as {kd : Nat → Nat} {k r : Nat} {t : List PA} (ht : ∀ x, dpT t x = x) : pD (pAs kd k r t) := by
  intro i h x
  unfold pAs at h ⊢
  split
  · show dpT (t ++ [aSk]) x = x
    rw [dpT_app, ht]
    rfl
  · rfl
theorem d_line {kd : Nat → Nat} : pD (pLine kd) := by
  intro i h
  unfold pLine at h ⊢
  by_cases h1 : kd i = 4 ∨ kd i = 5 ∨ kd i = 6 ∨ kd i = 7
  · rw [if_pos h1] at h ⊢
    refine d_seq (d_ok (fun _ => rfl)) (fun j => d_seq ?_ (fun l => d_seq (d_ok (fun _ => rfl)) (fun m => d_seq ?_ (fun q => d_ok (fun _ => rfl))))) h
    · split
      · exact d_seq (d_as (fun _ => rfl) j) (fun l => d_seq (d_ok (fun _ => rfl)) (fun m hm x => by
          unfold pSide
          split <;> rfl))
      · exact (d_lev 8).2.2 j
    · unfold pWhen
      split
      · exact d_seq (d_ok (fun _ => rfl)) (d_tev 8).2.2
      · exact d_ok (fun _ => rfl)
  · rw [if_neg h1] at h ⊢
    exact d_seq (d_take i) (fun j => d_seq (d_as (fun _ => rfl) j) (fun l => d_seq (d_take l) (fun m => d_seq (d_as (fun _ => rfl) m) (fun o => d_seq (d_take o) (fun q => d_seq (d_as (fun _ => rfl) q) (fun _ => d_ok (fun _ => rfl))))))) h
theorem kR_ord : ∀ k, k < 47 → ¬ (k = 4 ∨ k = 5 ∨ k = 6 ∨ k = 7) → kR k < 4 ∨ 7 < kR k := by decide +kernel
theorem m_eatAs1 {d k as : Nat} {x : Int32} {σ : mxS} {M kn fr mn rl mt g NT : Nat} {kd : Nat → Nat} {kf ff nf : Nat → Int32} {m0 m1 m2 m3 m11 m13 m14 m15 : Value} {R : MR} (H : mdC σ M kn fr mn rl mt g kd NT kf ff nf) (hR : rTk R ≤ NT) (hd : 2 ≤ d) (hk : k < 47) (hx : nI (kR k) = x) (h : kd (rTk R) = k) {Q : Option Value ⊕ Nat → mxS → Prop} : WP d 1555 0 [some (.ref M), some (.int x), some (.int (nI as))] [] (mdW σ m0 m1 m2 m3 m11 m13 m14 m15 M kn fr mn rl mt g R) Q = Q (.inl (some (.int (nI 1)))) (mdW σ m0 m1 m2 m3 m11 m13 m14 m15 M kn fr mn rl mt g (uSk (uRole as R))) := (m_eatAs H hR hd hk hx).trans (if_pos h)
theorem m_eatAs0 {d k as : Nat} {x : Int32} {σ : mxS} {M kn fr mn rl mt g NT : Nat} {kd : Nat → Nat} {kf ff nf : Nat → Int32} {m0 m1 m2 m3 m11 m13 m14 m15 : Value} {R : MR} (H : mdC σ M kn fr mn rl mt g kd NT kf ff nf) (hR : rTk R ≤ NT) (hd : 2 ≤ d) (hk : k < 47) (hx : nI (kR k) = x) (h : ¬ kd (rTk R) = k) {Q : Option Value ⊕ Nat → mxS → Prop} : WP d 1555 0 [some (.ref M), some (.int x), some (.int (nI as))] [] (mdW σ m0 m1 m2 m3 m11 m13 m14 m15 M kn fr mn rl mt g R) Q = Q (.inl (some (.int (nI 0)))) (mdW σ m0 m1 m2 m3 m11 m13 m14 m15 M kn fr mn rl mt g (uRole as R)) := (m_eatAs H hR hd hk hx).trans (if_neg h)
theorem r_line {d : Nat} {σ : mxS} {M kn fr mn rl mt g NT : Nat} {kd : Nat → Nat} {kf ff nf : Nat → Int32} {m0 m1 m2 m3 m11 m13 m14 m15 : Value} {num : Nat → Int32} (H : mdC σ M kn fr mn rl mt g kd NT kf ff nf) (hE : kd NT = 45 ∨ kd NT = 46) (hnum : ∀ d' R, rTk R ≤ NT → kd (rTk R) = 44 → ∀ Q, WP d' 1570 0 [some (.ref M), some (.int (nI (rTk R))), none, none] [] (mdW σ m0 m1 m2 m3 m11 m13 m14 m15 M kn fr mn rl mt g R) Q = Q (.inl (some (.int (num (rTk R))))) (mdW σ m0 m1 m2 m3 m11 m13 m14 m15 M kn fr mn rl mt g R)) (hd : 78 ≤ d) {R : MR} (hR : rTk R ≤ NT) (hDp : rDp R = 0) (hor : rOr R < 2 ^ 31) (hsf : sfR num R (pLine kd (rTk R)).2) {Q : Option Value ⊕ Nat → mxS → Prop} : WP d 1558 0 [some (.ref M), none] [] (mdW σ m0 m1 m2 m3 m11 m13 m14 m15 M kn fr mn rl mt g R) Q = Q (.inl (some (.int (bI (pLine kd (rTk R)).1)))) (mdW σ m0 m1 m2 m3 m11 m13 m14 m15 M kn fr mn rl mt g (runR num R (pLine kd (rTk R)).2)) := by
  have mM := fun R => md_M (m0 := m0) (m1 := m1) (m2 := m2) (m3 := m3) (m11 := m11) (m13 := m13) (m14 := m14) (m15 := m15) H R
  have mk := fun R => md_k (m0 := m0) (m1 := m1) (m2 := m2) (m3 := m3) (m11 := m11) (m13 := m13) (m14 := m14) (m15 := m15) H R
  have hM := H.1.1
  have hu1 := H.2.2.1.1.1
  have hN4 := H.2.2.2.2
  obtain ⟨hk1, hk2⟩ := H.2.2.2.1 _ hR
  have h4 : mxidx (nI (rTk R)) 401 = some (rTk R) := mxidx_nI (by omega) (by decide)
  have hd1 : 1 ≤ d := by omega
  have hdm1 : 1 ≤ d - 1 := by omega
  have hdm2 : 2 ≤ d - 1 := by omega
  by_cases hO : kd (rTk R) = 4 ∨ kd (rTk R) = 5 ∨ kd (rTk R) = 6 ∨ kd (rTk R) = 7
  · have e : pLine kd (rTk R) = pOrd kd (rTk R) := if_pos hO
    rw [e] at hsf ⊢
    have hq : kR (kd (rTk R)) = kd (rTk R) ∧ ¬ nI (kd (rTk R)) < nI 4 ∧ ¬ nI 7 < nI (kd (rTk R)) := by
      rcases hO with h | h | h | h <;> rw [h] <;> decide
    obtain ⟨q1, q2, q3⟩ := hq
    rw [q1] at hk1
    have hOr := fun Q => r_ord (Q := Q) (m0 := m0) (m1 := m1) (m2 := m2) (m3 := m3) (m11 := m11) (m13 := m13) (m14 := m14) (m15 := m15) (d := d - 1) H hE hnum (by omega) hR hDp hor hO hsf
    have hb01 : bI (pOrd kd (rTk R)).1 = nI 0 ∨ bI (pOrd kd (rTk R)).1 = nI 1 := by unfold bI; exact i10 _
    rcases hb01 with hz | hz <;> rw [hz] at hOr ⊢ <;> simp only [WP_eq, e_go, e_none, e_ite, e_thr0, e_ret, e_thr, e_call, e_Kv, e_Kn, e_Kx, e_K2, e_K20, e_at0, e_s1_0, e_s2_0, e_at1, e_s1_1, e_s2_1, e_at2, e_s1_2, e_s2_2, e_at3, e_s1_3, e_s2_3, e_at4, e_s1_4, e_s2_4, e_at5, e_s1_5, e_s2_5, e_at6, e_s1_6, e_s2_6, e_at7, e_s1_7, e_s2_7, e_at8, e_s1_8, e_s2_8, e_at9, e_s1_9, e_s2_9, e_at10, e_s1_10, e_s2_10, e_at11, e_s1_11, e_s2_11, e_at12, e_s1_12, e_s2_12, e_at13, e_s1_13, e_s2_13, e_kn, e_ki, e_kj, e_kd, e_kr, e_k0, e_lI, e_lJ, e_lD, e_lA, e_lA0, e_sI, e_sJ, e_sD, e_sA, e_sA0, e_inc, e_I2, e_I2z, e_I1, e_I2J, e_J2I, e_I2D, e_J2, e_lcmp, e_dcmp, e_ddiv, e_ifeq, e_iceq, e_ifne, e_icne, e_iflt, e_iclt, e_ifge, e_icge, e_ifgt, e_icgt, e_ifle, e_icle, e_ca, e_ca2, e_en, e_en0, e_sw, e_lk0, e_lk, e_dup, e_dup2, e_pop, e_ci, e_cj, e_cd, e_cr, e_c0, e_gf, e_gf2, e_gf3, e_pf, e_pf2, e_f0, e_f1, e_f2, e_f20, e_len, e_len2, e_al, e_al2, e_al3, e_alJ, e_alJ2, e_alJ3, e_alA, e_alA2, e_alA3, e_as, e_as2, e_as3, e_asB, e_asB2, e_asJ, e_asJ2, e_asJ3, e_asA, e_asA2, e_asA3, e_new, e_na, e_na2, e_cat0, e_cat1, e_tk0, e_tk1, e_tk2, e_tk3, e_tk4, e_tk5, e_tk6, e_tk7, e_tk8, e_cS, e_cS2, e_cI_0, e_cI_1, e_cI_2, e_cI_3, e_cI_4, e_cI_5, e_cI2, e_cV_0, e_cV_1, e_cV_2, e_cV_3, e_cV_4, e_cV_5, e_cV_6, e_cV_7, e_cV2, e_cV3, e_oi, e_cp, e_r0, e_r1, e_r2, e_r3, e_r4, e_r5, e_r6, e_r60, e_r7, e_W1, e_W2, e_A1, e_A2, e_Wg, e_Ag, e_rf0, e_rf1, e_len0, e_len1, e_vl0, e_vl1, z00, z10, z11, ↓reduceIte, List.getElem?_cons_zero, List.getElem?_cons_succ, List.set_cons_zero, List.set_cons_succ, and_true, true_and, and_self, or_true, true_or, or_false, false_or, Nat.reduceAdd, Nat.reduceSub, Nat.reduceLT, Nat.reduceLeDiff, Nat.reduceEqDiff, Nat.reduceBEq, beq_self_eq_true, Bool.or_false, Bool.false_or, Bool.or_true, Bool.true_or, not_true, not_false_eq_true, reduceCtorEq, s1558_0, s1558_1, s1558_4, s1558_5, s1558_8, s1558_9, s1558_10, s1558_11, s1558_12, s1558_15, s1558_16, s1558_18, s1558_21, s1558_22, s1558_23, s1558_26, md_n, mM, mk, hM, hu1, h4, hk1, q2, q3, hd1, cal (n1559 _ _) (hOr _)]
  · have e : pLine kd (rTk R) = pPig kd (rTk R) := if_neg hO
    rw [e] at hsf ⊢
    have hnd : nI (kR (kd (rTk R))) < nI 4 ∨ nI 7 < nI (kR (kd (rTk R))) := by
      have hl := kR_lt _ hk2
      rcases kR_ord _ hk2 hO with h | h
      · exact Or.inl (nI_lt h (by decide))
      · exact Or.inr (nI_lt h (by omega))
    have pre : ∀ Q, WP d 1558 0 [some (.ref M), none] [] (mdW σ m0 m1 m2 m3 m11 m13 m14 m15 M kn fr mn rl mt g R) Q = WP d 1558 27 [some (.ref M), some (.int (nI (kR (kd (rTk R)))))] [] (mdW σ m0 m1 m2 m3 m11 m13 m14 m15 M kn fr mn rl mt g R) Q := by
      intro Q
      by_cases q : nI (kR (kd (rTk R))) < nI 4
      · simp only [WP_eq, e_go, e_none, e_ite, e_thr0, e_ret, e_thr, e_call, e_Kv, e_Kn, e_Kx, e_K2, e_K20, e_at0, e_s1_0, e_s2_0, e_at1, e_s1_1, e_s2_1, e_at2, e_s1_2, e_s2_2, e_at3, e_s1_3, e_s2_3, e_at4, e_s1_4, e_s2_4, e_at5, e_s1_5, e_s2_5, e_at6, e_s1_6, e_s2_6, e_at7, e_s1_7, e_s2_7, e_at8, e_s1_8, e_s2_8, e_at9, e_s1_9, e_s2_9, e_at10, e_s1_10, e_s2_10, e_at11, e_s1_11, e_s2_11, e_at12, e_s1_12, e_s2_12, e_at13, e_s1_13, e_s2_13, e_kn, e_ki, e_kj, e_kd, e_kr, e_k0, e_lI, e_lJ, e_lD, e_lA, e_lA0, e_sI, e_sJ, e_sD, e_sA, e_sA0, e_inc, e_I2, e_I2z, e_I1, e_I2J, e_J2I, e_I2D, e_J2, e_lcmp, e_dcmp, e_ddiv, e_ifeq, e_iceq, e_ifne, e_icne, e_iflt, e_iclt, e_ifge, e_icge, e_ifgt, e_icgt, e_ifle, e_icle, e_ca, e_ca2, e_en, e_en0, e_sw, e_lk0, e_lk, e_dup, e_dup2, e_pop, e_ci, e_cj, e_cd, e_cr, e_c0, e_gf, e_gf2, e_gf3, e_pf, e_pf2, e_f0, e_f1, e_f2, e_f20, e_len, e_len2, e_al, e_al2, e_al3, e_alJ, e_alJ2, e_alJ3, e_alA, e_alA2, e_alA3, e_as, e_as2, e_as3, e_asB, e_asB2, e_asJ, e_asJ2, e_asJ3, e_asA, e_asA2, e_asA3, e_new, e_na, e_na2, e_cat0, e_cat1, e_tk0, e_tk1, e_tk2, e_tk3, e_tk4, e_tk5, e_tk6, e_tk7, e_tk8, e_cS, e_cS2, e_cI_0, e_cI_1, e_cI_2, e_cI_3, e_cI_4, e_cI_5, e_cI2, e_cV_0, e_cV_1, e_cV_2, e_cV_3, e_cV_4, e_cV_5, e_cV_6, e_cV_7, e_cV2, e_cV3, e_oi, e_cp, e_r0, e_r1, e_r2, e_r3, e_r4, e_r5, e_r6, e_r60, e_r7, e_W1, e_W2, e_A1, e_A2, e_Wg, e_Ag, e_rf0, e_rf1, e_len0, e_len1, e_vl0, e_vl1, z00, z10, z11, ↓reduceIte, List.getElem?_cons_zero, List.getElem?_cons_succ, List.set_cons_zero, List.set_cons_succ, and_true, true_and, and_self, or_true, true_or, or_false, false_or, Nat.reduceAdd, Nat.reduceSub, Nat.reduceLT, Nat.reduceLeDiff, Nat.reduceEqDiff, Nat.reduceBEq, beq_self_eq_true, Bool.or_false, Bool.false_or, Bool.or_true, Bool.true_or, not_true, not_false_eq_true, reduceCtorEq, s1558_0, s1558_1, s1558_4, s1558_5, s1558_8, s1558_9, s1558_10, s1558_11, s1558_12, s1558_15, s1558_16, s1558_18, s1558_21, s1558_22, s1558_23, s1558_26, md_n, mM, mk, hM, hu1, h4, hk1, q]
        all_goals rfl
      · have q2 := hnd.resolve_left q
        simp only [WP_eq, e_go, e_none, e_ite, e_thr0, e_ret, e_thr, e_call, e_Kv, e_Kn, e_Kx, e_K2, e_K20, e_at0, e_s1_0, e_s2_0, e_at1, e_s1_1, e_s2_1, e_at2, e_s1_2, e_s2_2, e_at3, e_s1_3, e_s2_3, e_at4, e_s1_4, e_s2_4, e_at5, e_s1_5, e_s2_5, e_at6, e_s1_6, e_s2_6, e_at7, e_s1_7, e_s2_7, e_at8, e_s1_8, e_s2_8, e_at9, e_s1_9, e_s2_9, e_at10, e_s1_10, e_s2_10, e_at11, e_s1_11, e_s2_11, e_at12, e_s1_12, e_s2_12, e_at13, e_s1_13, e_s2_13, e_kn, e_ki, e_kj, e_kd, e_kr, e_k0, e_lI, e_lJ, e_lD, e_lA, e_lA0, e_sI, e_sJ, e_sD, e_sA, e_sA0, e_inc, e_I2, e_I2z, e_I1, e_I2J, e_J2I, e_I2D, e_J2, e_lcmp, e_dcmp, e_ddiv, e_ifeq, e_iceq, e_ifne, e_icne, e_iflt, e_iclt, e_ifge, e_icge, e_ifgt, e_icgt, e_ifle, e_icle, e_ca, e_ca2, e_en, e_en0, e_sw, e_lk0, e_lk, e_dup, e_dup2, e_pop, e_ci, e_cj, e_cd, e_cr, e_c0, e_gf, e_gf2, e_gf3, e_pf, e_pf2, e_f0, e_f1, e_f2, e_f20, e_len, e_len2, e_al, e_al2, e_al3, e_alJ, e_alJ2, e_alJ3, e_alA, e_alA2, e_alA3, e_as, e_as2, e_as3, e_asB, e_asB2, e_asJ, e_asJ2, e_asJ3, e_asA, e_asA2, e_asA3, e_new, e_na, e_na2, e_cat0, e_cat1, e_tk0, e_tk1, e_tk2, e_tk3, e_tk4, e_tk5, e_tk6, e_tk7, e_tk8, e_cS, e_cS2, e_cI_0, e_cI_1, e_cI_2, e_cI_3, e_cI_4, e_cI_5, e_cI2, e_cV_0, e_cV_1, e_cV_2, e_cV_3, e_cV_4, e_cV_5, e_cV_6, e_cV_7, e_cV2, e_cV3, e_oi, e_cp, e_r0, e_r1, e_r2, e_r3, e_r4, e_r5, e_r6, e_r60, e_r7, e_W1, e_W2, e_A1, e_A2, e_Wg, e_Ag, e_rf0, e_rf1, e_len0, e_len1, e_vl0, e_vl1, z00, z10, z11, ↓reduceIte, List.getElem?_cons_zero, List.getElem?_cons_succ, List.set_cons_zero, List.set_cons_succ, and_true, true_and, and_self, or_true, true_or, or_false, false_or, Nat.reduceAdd, Nat.reduceSub, Nat.reduceLT, Nat.reduceLeDiff, Nat.reduceEqDiff, Nat.reduceBEq, beq_self_eq_true, Bool.or_false, Bool.false_or, Bool.or_true, Bool.true_or, not_true, not_false_eq_true, reduceCtorEq, s1558_0, s1558_1, s1558_4, s1558_5, s1558_8, s1558_9, s1558_10, s1558_11, s1558_12, s1558_15, s1558_16, s1558_18, s1558_21, s1558_22, s1558_23, s1558_26, md_n, mM, mk, hM, hu1, h4, hk1, q, q2]
        all_goals rfl
    rw [pre]
    by_cases h1 : kd (rTk R) = 1
    · have hlt : rTk R < NT := nt_lt hE hR h1 (by decide)
      have hE1 := fun Q => m_eat1 (m0 := m0) (m1 := m1) (m2 := m2) (m3 := m3) (m11 := m11) (m13 := m13) (m14 := m14) (m15 := m15) (Q := Q) (k := 1) (x := nI 1) (d := d - 1) H hR hdm1 (by decide) rfl h1
      have hR1 : rTk (uSk R) ≤ NT := hlt
      have t1 : rTk (uSk R) = rTk R + 1 := rfl
      by_cases h2 : kd (rTk R + 1) = 43
      · have hE2 := fun Q => m_eatAs1 (m0 := m0) (m1 := m1) (m2 := m2) (m3 := m3) (m11 := m11) (m13 := m13) (m14 := m14) (m15 := m15) (Q := Q) (k := 43) (as := 1) (x := nI 40) (d := d - 1) H hR1 hdm2 (by decide) rfl h2
        have hlt1 : rTk R + 1 < NT := nt_lt hE hR1 h2 (by decide)
        have hR2 : rTk (uSk (uRole 1 (uSk R))) ≤ NT := hlt1
        have t2 : rTk (uSk (uRole 1 (uSk R))) = rTk R + 2 := rfl
        by_cases h3 : kd (rTk R + 2) = 2
        · have hE3 := fun Q => m_eat1 (m0 := m0) (m1 := m1) (m2 := m2) (m3 := m3) (m11 := m11) (m13 := m13) (m14 := m14) (m15 := m15) (Q := Q) (k := 2) (x := nI 2) (d := d - 1) H hR2 hdm1 (by decide) rfl h3
          have hlt2 : rTk R + 2 < NT := nt_lt hE hR2 h3 (by decide)
          have hR3 : rTk (uSk (uSk (uRole 1 (uSk R)))) ≤ NT := hlt2
          by_cases h4' : kd (rTk R + 3) = 44
          · have hE4 := fun Q => m_eatAs1 (m0 := m0) (m1 := m1) (m2 := m2) (m3 := m3) (m11 := m11) (m13 := m13) (m14 := m14) (m15 := m15) (Q := Q) (k := 44) (as := 6) (x := nI 41) (d := d - 1) H hR3 hdm2 (by decide) rfl h4'
            have hlt3 : rTk R + 3 < NT := nt_lt hE hR3 h4' (by decide)
            have hR4 : rTk (uSk (uRole 6 (uSk (uSk (uRole 1 (uSk R)))))) ≤ NT := hlt3
            by_cases h5 : kd (rTk R + 4) = 3
            · have hE5 := fun Q => m_eat1 (m0 := m0) (m1 := m1) (m2 := m2) (m3 := m3) (m11 := m11) (m13 := m13) (m14 := m14) (m15 := m15) (Q := Q) (k := 3) (x := nI 3) (d := d - 1) H hR4 hdm1 (by decide) rfl h5
              have hlt4 : rTk R + 4 < NT := nt_lt hE hR4 h5 (by decide)
              have hR5 : rTk (uSk (uSk (uRole 6 (uSk (uSk (uRole 1 (uSk R))))))) ≤ NT := hlt4
              by_cases h6 : kd (rTk R + 5) = 44
              · have hE6 := fun Q => m_eatAs1 (m0 := m0) (m1 := m1) (m2 := m2) (m3 := m3) (m11 := m11) (m13 := m13) (m14 := m14) (m15 := m15) (Q := Q) (k := 44) (as := 7) (x := nI 41) (d := d - 1) H hR5 hdm2 (by decide) rfl h6
                have eP : pPig kd (rTk R) = (true, [aSk, aRole 1, aNew, aSk, aSk, aRole 6, aRng 0, aSk, aSk, aRole 7, aRng 1, aSk, aPig (rTk R + 3) (rTk R + 5)]) := by
                  simp [pPig, pTake, pAs, pSeq, pOk, pNo, skN, aSk, aRole, aNew, aRng, h1, h2, h3, h4', h5, h6, Nat.add_assoc]
                rw [eP]
                simp only [WP_eq, e_go, e_none, e_ite, e_thr0, e_ret, e_thr, e_call, e_Kv, e_Kn, e_Kx, e_K2, e_K20, e_at0, e_s1_0, e_s2_0, e_at1, e_s1_1, e_s2_1, e_at2, e_s1_2, e_s2_2, e_at3, e_s1_3, e_s2_3, e_at4, e_s1_4, e_s2_4, e_at5, e_s1_5, e_s2_5, e_at6, e_s1_6, e_s2_6, e_at7, e_s1_7, e_s2_7, e_at8, e_s1_8, e_s2_8, e_at9, e_s1_9, e_s2_9, e_at10, e_s1_10, e_s2_10, e_at11, e_s1_11, e_s2_11, e_at12, e_s1_12, e_s2_12, e_at13, e_s1_13, e_s2_13, e_kn, e_ki, e_kj, e_kd, e_kr, e_k0, e_lI, e_lJ, e_lD, e_lA, e_lA0, e_sI, e_sJ, e_sD, e_sA, e_sA0, e_inc, e_I2, e_I2z, e_I1, e_I2J, e_J2I, e_I2D, e_J2, e_lcmp, e_dcmp, e_ddiv, e_ifeq, e_iceq, e_ifne, e_icne, e_iflt, e_iclt, e_ifge, e_icge, e_ifgt, e_icgt, e_ifle, e_icle, e_ca, e_ca2, e_en, e_en0, e_sw, e_lk0, e_lk, e_dup, e_dup2, e_pop, e_ci, e_cj, e_cd, e_cr, e_c0, e_gf, e_gf2, e_gf3, e_pf, e_pf2, e_f0, e_f1, e_f2, e_f20, e_len, e_len2, e_al, e_al2, e_al3, e_alJ, e_alJ2, e_alJ3, e_alA, e_alA2, e_alA3, e_as, e_as2, e_as3, e_asB, e_asB2, e_asJ, e_asJ2, e_asJ3, e_asA, e_asA2, e_asA3, e_new, e_na, e_na2, e_cat0, e_cat1, e_tk0, e_tk1, e_tk2, e_tk3, e_tk4, e_tk5, e_tk6, e_tk7, e_tk8, e_cS, e_cS2, e_cI_0, e_cI_1, e_cI_2, e_cI_3, e_cI_4, e_cI_5, e_cI2, e_cV_0, e_cV_1, e_cV_2, e_cV_3, e_cV_4, e_cV_5, e_cV_6, e_cV_7, e_cV2, e_cV3, e_oi, e_cp, e_r0, e_r1, e_r2, e_r3, e_r4, e_r5, e_r6, e_r60, e_r7, e_W1, e_W2, e_A1, e_A2, e_Wg, e_Ag, e_rf0, e_rf1, e_len0, e_len1, e_vl0, e_vl1, z00, z10, z11, ↓reduceIte, List.getElem?_cons_zero, List.getElem?_cons_succ, List.set_cons_zero, List.set_cons_succ, and_true, true_and, and_self, or_true, true_or, or_false, false_or, Nat.reduceAdd, Nat.reduceSub, Nat.reduceLT, Nat.reduceLeDiff, Nat.reduceEqDiff, Nat.reduceBEq, beq_self_eq_true, Bool.or_false, Bool.false_or, Bool.or_true, Bool.true_or, not_true, not_false_eq_true, reduceCtorEq, s1558_27, s1558_28, s1558_29, s1558_32, s1558_35, s1558_36, s1558_38, s1558_39, s1558_42, s1558_45, s1558_46, s1558_47, s1558_50, s1558_53, s1558_54, s1558_56, s1558_58, s1558_61, s1558_64, s1558_65, s1558_66, s1558_69, s1558_72, s1558_73, s1558_75, s1558_77, s1558_80, s1558_83, s1558_84, s1558_87, s1558_88, md_n, mM, hM, hd1, cal (n1553 _ _) (hE1 _), cal (n1555 _ _ _) (hE2 _), cal (n1553 _ _) (hE3 _), cal (n1555 _ _ _) (hE4 _), cal (n1553 _ _) (hE5 _), cal (n1555 _ _ _) (hE6 _), bI_t, runR_nil, runR_app, q_Sk, q_Role, q_Put, q_Num, q_Nam, q_Step, q_Look, q_Roof, q_New, q_Rng, q_Pig, q_Full, q_Ord, q_M1, q_M2, q_OB, q_OR, q_OT, q_OE, q_Deep, q_Up, List.cons_append, List.nil_append]
              · have hE6 := fun Q => m_eatAs0 (m0 := m0) (m1 := m1) (m2 := m2) (m3 := m3) (m11 := m11) (m13 := m13) (m14 := m14) (m15 := m15) (Q := Q) (k := 44) (as := 7) (x := nI 41) (d := d - 1) H hR5 hdm2 (by decide) rfl h6
                have eP : pPig kd (rTk R) = (false, [aSk, aRole 1, aNew, aSk, aSk, aRole 6, aRng 0, aSk, aSk, aRole 7]) := by
                  simp [pPig, pTake, pAs, pSeq, pOk, pNo, skN, aSk, aRole, aNew, aRng, h1, h2, h3, h4', h5, h6, Nat.add_assoc]
                rw [eP]
                simp only [WP_eq, e_go, e_none, e_ite, e_thr0, e_ret, e_thr, e_call, e_Kv, e_Kn, e_Kx, e_K2, e_K20, e_at0, e_s1_0, e_s2_0, e_at1, e_s1_1, e_s2_1, e_at2, e_s1_2, e_s2_2, e_at3, e_s1_3, e_s2_3, e_at4, e_s1_4, e_s2_4, e_at5, e_s1_5, e_s2_5, e_at6, e_s1_6, e_s2_6, e_at7, e_s1_7, e_s2_7, e_at8, e_s1_8, e_s2_8, e_at9, e_s1_9, e_s2_9, e_at10, e_s1_10, e_s2_10, e_at11, e_s1_11, e_s2_11, e_at12, e_s1_12, e_s2_12, e_at13, e_s1_13, e_s2_13, e_kn, e_ki, e_kj, e_kd, e_kr, e_k0, e_lI, e_lJ, e_lD, e_lA, e_lA0, e_sI, e_sJ, e_sD, e_sA, e_sA0, e_inc, e_I2, e_I2z, e_I1, e_I2J, e_J2I, e_I2D, e_J2, e_lcmp, e_dcmp, e_ddiv, e_ifeq, e_iceq, e_ifne, e_icne, e_iflt, e_iclt, e_ifge, e_icge, e_ifgt, e_icgt, e_ifle, e_icle, e_ca, e_ca2, e_en, e_en0, e_sw, e_lk0, e_lk, e_dup, e_dup2, e_pop, e_ci, e_cj, e_cd, e_cr, e_c0, e_gf, e_gf2, e_gf3, e_pf, e_pf2, e_f0, e_f1, e_f2, e_f20, e_len, e_len2, e_al, e_al2, e_al3, e_alJ, e_alJ2, e_alJ3, e_alA, e_alA2, e_alA3, e_as, e_as2, e_as3, e_asB, e_asB2, e_asJ, e_asJ2, e_asJ3, e_asA, e_asA2, e_asA3, e_new, e_na, e_na2, e_cat0, e_cat1, e_tk0, e_tk1, e_tk2, e_tk3, e_tk4, e_tk5, e_tk6, e_tk7, e_tk8, e_cS, e_cS2, e_cI_0, e_cI_1, e_cI_2, e_cI_3, e_cI_4, e_cI_5, e_cI2, e_cV_0, e_cV_1, e_cV_2, e_cV_3, e_cV_4, e_cV_5, e_cV_6, e_cV_7, e_cV2, e_cV3, e_oi, e_cp, e_r0, e_r1, e_r2, e_r3, e_r4, e_r5, e_r6, e_r60, e_r7, e_W1, e_W2, e_A1, e_A2, e_Wg, e_Ag, e_rf0, e_rf1, e_len0, e_len1, e_vl0, e_vl1, z00, z10, z11, ↓reduceIte, List.getElem?_cons_zero, List.getElem?_cons_succ, List.set_cons_zero, List.set_cons_succ, and_true, true_and, and_self, or_true, true_or, or_false, false_or, Nat.reduceAdd, Nat.reduceSub, Nat.reduceLT, Nat.reduceLeDiff, Nat.reduceEqDiff, Nat.reduceBEq, beq_self_eq_true, Bool.or_false, Bool.false_or, Bool.or_true, Bool.true_or, not_true, not_false_eq_true, reduceCtorEq, s1558_27, s1558_28, s1558_29, s1558_32, s1558_35, s1558_36, s1558_38, s1558_39, s1558_42, s1558_45, s1558_46, s1558_47, s1558_50, s1558_53, s1558_54, s1558_56, s1558_58, s1558_61, s1558_64, s1558_65, s1558_66, s1558_69, s1558_72, s1558_73, s1558_75, s1558_77, s1558_80, s1558_83, s1558_84, s1558_87, s1558_88, md_n, mM, hM, hd1, cal (n1553 _ _) (hE1 _), cal (n1555 _ _ _) (hE2 _), cal (n1553 _ _) (hE3 _), cal (n1555 _ _ _) (hE4 _), cal (n1553 _ _) (hE5 _), cal (n1555 _ _ _) (hE6 _), bI_f, runR_nil, runR_app, q_Sk, q_Role, q_Put, q_Num, q_Nam, q_Step, q_Look, q_Roof, q_New, q_Rng, q_Pig, q_Full, q_Ord, q_M1, q_M2, q_OB, q_OR, q_OT, q_OE, q_Deep, q_Up, List.cons_append, List.nil_append]
            · have hE5 := fun Q => m_eat0 (m0 := m0) (m1 := m1) (m2 := m2) (m3 := m3) (m11 := m11) (m13 := m13) (m14 := m14) (m15 := m15) (Q := Q) (k := 3) (x := nI 3) (d := d - 1) H hR4 hdm1 (by decide) rfl h5
              have eP : pPig kd (rTk R) = (false, [aSk, aRole 1, aNew, aSk, aSk, aRole 6, aRng 0, aSk]) := by
                simp [pPig, pTake, pAs, pSeq, pOk, pNo, skN, aSk, aRole, aNew, aRng, h1, h2, h3, h4', h5, Nat.add_assoc]
              rw [eP]
              simp only [WP_eq, e_go, e_none, e_ite, e_thr0, e_ret, e_thr, e_call, e_Kv, e_Kn, e_Kx, e_K2, e_K20, e_at0, e_s1_0, e_s2_0, e_at1, e_s1_1, e_s2_1, e_at2, e_s1_2, e_s2_2, e_at3, e_s1_3, e_s2_3, e_at4, e_s1_4, e_s2_4, e_at5, e_s1_5, e_s2_5, e_at6, e_s1_6, e_s2_6, e_at7, e_s1_7, e_s2_7, e_at8, e_s1_8, e_s2_8, e_at9, e_s1_9, e_s2_9, e_at10, e_s1_10, e_s2_10, e_at11, e_s1_11, e_s2_11, e_at12, e_s1_12, e_s2_12, e_at13, e_s1_13, e_s2_13, e_kn, e_ki, e_kj, e_kd, e_kr, e_k0, e_lI, e_lJ, e_lD, e_lA, e_lA0, e_sI, e_sJ, e_sD, e_sA, e_sA0, e_inc, e_I2, e_I2z, e_I1, e_I2J, e_J2I, e_I2D, e_J2, e_lcmp, e_dcmp, e_ddiv, e_ifeq, e_iceq, e_ifne, e_icne, e_iflt, e_iclt, e_ifge, e_icge, e_ifgt, e_icgt, e_ifle, e_icle, e_ca, e_ca2, e_en, e_en0, e_sw, e_lk0, e_lk, e_dup, e_dup2, e_pop, e_ci, e_cj, e_cd, e_cr, e_c0, e_gf, e_gf2, e_gf3, e_pf, e_pf2, e_f0, e_f1, e_f2, e_f20, e_len, e_len2, e_al, e_al2, e_al3, e_alJ, e_alJ2, e_alJ3, e_alA, e_alA2, e_alA3, e_as, e_as2, e_as3, e_asB, e_asB2, e_asJ, e_asJ2, e_asJ3, e_asA, e_asA2, e_asA3, e_new, e_na, e_na2, e_cat0, e_cat1, e_tk0, e_tk1, e_tk2, e_tk3, e_tk4, e_tk5, e_tk6, e_tk7, e_tk8, e_cS, e_cS2, e_cI_0, e_cI_1, e_cI_2, e_cI_3, e_cI_4, e_cI_5, e_cI2, e_cV_0, e_cV_1, e_cV_2, e_cV_3, e_cV_4, e_cV_5, e_cV_6, e_cV_7, e_cV2, e_cV3, e_oi, e_cp, e_r0, e_r1, e_r2, e_r3, e_r4, e_r5, e_r6, e_r60, e_r7, e_W1, e_W2, e_A1, e_A2, e_Wg, e_Ag, e_rf0, e_rf1, e_len0, e_len1, e_vl0, e_vl1, z00, z10, z11, ↓reduceIte, List.getElem?_cons_zero, List.getElem?_cons_succ, List.set_cons_zero, List.set_cons_succ, and_true, true_and, and_self, or_true, true_or, or_false, false_or, Nat.reduceAdd, Nat.reduceSub, Nat.reduceLT, Nat.reduceLeDiff, Nat.reduceEqDiff, Nat.reduceBEq, beq_self_eq_true, Bool.or_false, Bool.false_or, Bool.or_true, Bool.true_or, not_true, not_false_eq_true, reduceCtorEq, s1558_27, s1558_28, s1558_29, s1558_32, s1558_35, s1558_36, s1558_38, s1558_39, s1558_42, s1558_45, s1558_46, s1558_47, s1558_50, s1558_53, s1558_54, s1558_56, s1558_58, s1558_61, s1558_64, s1558_65, s1558_66, s1558_69, s1558_72, s1558_73, s1558_75, s1558_77, s1558_80, s1558_83, s1558_84, s1558_87, s1558_88, md_n, mM, hM, hd1, cal (n1553 _ _) (hE1 _), cal (n1555 _ _ _) (hE2 _), cal (n1553 _ _) (hE3 _), cal (n1555 _ _ _) (hE4 _), cal (n1553 _ _) (hE5 _), bI_f, runR_nil, runR_app, q_Sk, q_Role, q_Put, q_Num, q_Nam, q_Step, q_Look, q_Roof, q_New, q_Rng, q_Pig, q_Full, q_Ord, q_M1, q_M2, q_OB, q_OR, q_OT, q_OE, q_Deep, q_Up, List.cons_append, List.nil_append]
          · have hE4 := fun Q => m_eatAs0 (m0 := m0) (m1 := m1) (m2 := m2) (m3 := m3) (m11 := m11) (m13 := m13) (m14 := m14) (m15 := m15) (Q := Q) (k := 44) (as := 6) (x := nI 41) (d := d - 1) H hR3 hdm2 (by decide) rfl h4'
            have eP : pPig kd (rTk R) = (false, [aSk, aRole 1, aNew, aSk, aSk, aRole 6]) := by
              simp [pPig, pTake, pAs, pSeq, pOk, pNo, skN, aSk, aRole, aNew, aRng, h1, h2, h3, h4', Nat.add_assoc]
            rw [eP]
            simp only [WP_eq, e_go, e_none, e_ite, e_thr0, e_ret, e_thr, e_call, e_Kv, e_Kn, e_Kx, e_K2, e_K20, e_at0, e_s1_0, e_s2_0, e_at1, e_s1_1, e_s2_1, e_at2, e_s1_2, e_s2_2, e_at3, e_s1_3, e_s2_3, e_at4, e_s1_4, e_s2_4, e_at5, e_s1_5, e_s2_5, e_at6, e_s1_6, e_s2_6, e_at7, e_s1_7, e_s2_7, e_at8, e_s1_8, e_s2_8, e_at9, e_s1_9, e_s2_9, e_at10, e_s1_10, e_s2_10, e_at11, e_s1_11, e_s2_11, e_at12, e_s1_12, e_s2_12, e_at13, e_s1_13, e_s2_13, e_kn, e_ki, e_kj, e_kd, e_kr, e_k0, e_lI, e_lJ, e_lD, e_lA, e_lA0, e_sI, e_sJ, e_sD, e_sA, e_sA0, e_inc, e_I2, e_I2z, e_I1, e_I2J, e_J2I, e_I2D, e_J2, e_lcmp, e_dcmp, e_ddiv, e_ifeq, e_iceq, e_ifne, e_icne, e_iflt, e_iclt, e_ifge, e_icge, e_ifgt, e_icgt, e_ifle, e_icle, e_ca, e_ca2, e_en, e_en0, e_sw, e_lk0, e_lk, e_dup, e_dup2, e_pop, e_ci, e_cj, e_cd, e_cr, e_c0, e_gf, e_gf2, e_gf3, e_pf, e_pf2, e_f0, e_f1, e_f2, e_f20, e_len, e_len2, e_al, e_al2, e_al3, e_alJ, e_alJ2, e_alJ3, e_alA, e_alA2, e_alA3, e_as, e_as2, e_as3, e_asB, e_asB2, e_asJ, e_asJ2, e_asJ3, e_asA, e_asA2, e_asA3, e_new, e_na, e_na2, e_cat0, e_cat1, e_tk0, e_tk1, e_tk2, e_tk3, e_tk4, e_tk5, e_tk6, e_tk7, e_tk8, e_cS, e_cS2, e_cI_0, e_cI_1, e_cI_2, e_cI_3, e_cI_4, e_cI_5, e_cI2, e_cV_0, e_cV_1, e_cV_2, e_cV_3, e_cV_4, e_cV_5, e_cV_6, e_cV_7, e_cV2, e_cV3, e_oi, e_cp, e_r0, e_r1, e_r2, e_r3, e_r4, e_r5, e_r6, e_r60, e_r7, e_W1, e_W2, e_A1, e_A2, e_Wg, e_Ag, e_rf0, e_rf1, e_len0, e_len1, e_vl0, e_vl1, z00, z10, z11, ↓reduceIte, List.getElem?_cons_zero, List.getElem?_cons_succ, List.set_cons_zero, List.set_cons_succ, and_true, true_and, and_self, or_true, true_or, or_false, false_or, Nat.reduceAdd, Nat.reduceSub, Nat.reduceLT, Nat.reduceLeDiff, Nat.reduceEqDiff, Nat.reduceBEq, beq_self_eq_true, Bool.or_false, Bool.false_or, Bool.or_true, Bool.true_or, not_true, not_false_eq_true, reduceCtorEq, s1558_27, s1558_28, s1558_29, s1558_32, s1558_35, s1558_36, s1558_38, s1558_39, s1558_42, s1558_45, s1558_46, s1558_47, s1558_50, s1558_53, s1558_54, s1558_56, s1558_58, s1558_61, s1558_64, s1558_65, s1558_66, s1558_69, s1558_72, s1558_73, s1558_75, s1558_77, s1558_80, s1558_83, s1558_84, s1558_87, s1558_88, md_n, mM, hM, hd1, cal (n1553 _ _) (hE1 _), cal (n1555 _ _ _) (hE2 _), cal (n1553 _ _) (hE3 _), cal (n1555 _ _ _) (hE4 _), bI_f, runR_nil, runR_app, q_Sk, q_Role, q_Put, q_Num, q_Nam, q_Step, q_Look, q_Roof, q_New, q_Rng, q_Pig, q_Full, q_Ord, q_M1, q_M2, q_OB, q_OR, q_OT, q_OE, q_Deep, q_Up, List.cons_append, List.nil_append]
        · have hE3 := fun Q => m_eat0 (m0 := m0) (m1 := m1) (m2 := m2) (m3 := m3) (m11 := m11) (m13 := m13) (m14 := m14) (m15 := m15) (Q := Q) (k := 2) (x := nI 2) (d := d - 1) H hR2 hdm1 (by decide) rfl h3
          have eP : pPig kd (rTk R) = (false, [aSk, aRole 1, aNew, aSk]) := by
            simp [pPig, pTake, pAs, pSeq, pOk, pNo, skN, aSk, aRole, aNew, aRng, h1, h2, h3, Nat.add_assoc]
          rw [eP]
          simp only [WP_eq, e_go, e_none, e_ite, e_thr0, e_ret, e_thr, e_call, e_Kv, e_Kn, e_Kx, e_K2, e_K20, e_at0, e_s1_0, e_s2_0, e_at1, e_s1_1, e_s2_1, e_at2, e_s1_2, e_s2_2, e_at3, e_s1_3, e_s2_3, e_at4, e_s1_4, e_s2_4, e_at5, e_s1_5, e_s2_5, e_at6, e_s1_6, e_s2_6, e_at7, e_s1_7, e_s2_7, e_at8, e_s1_8, e_s2_8, e_at9, e_s1_9, e_s2_9, e_at10, e_s1_10, e_s2_10, e_at11, e_s1_11, e_s2_11, e_at12, e_s1_12, e_s2_12, e_at13, e_s1_13, e_s2_13, e_kn, e_ki, e_kj, e_kd, e_kr, e_k0, e_lI, e_lJ, e_lD, e_lA, e_lA0, e_sI, e_sJ, e_sD, e_sA, e_sA0, e_inc, e_I2, e_I2z, e_I1, e_I2J, e_J2I, e_I2D, e_J2, e_lcmp, e_dcmp, e_ddiv, e_ifeq, e_iceq, e_ifne, e_icne, e_iflt, e_iclt, e_ifge, e_icge, e_ifgt, e_icgt, e_ifle, e_icle, e_ca, e_ca2, e_en, e_en0, e_sw, e_lk0, e_lk, e_dup, e_dup2, e_pop, e_ci, e_cj, e_cd, e_cr, e_c0, e_gf, e_gf2, e_gf3, e_pf, e_pf2, e_f0, e_f1, e_f2, e_f20, e_len, e_len2, e_al, e_al2, e_al3, e_alJ, e_alJ2, e_alJ3, e_alA, e_alA2, e_alA3, e_as, e_as2, e_as3, e_asB, e_asB2, e_asJ, e_asJ2, e_asJ3, e_asA, e_asA2, e_asA3, e_new, e_na, e_na2, e_cat0, e_cat1, e_tk0, e_tk1, e_tk2, e_tk3, e_tk4, e_tk5, e_tk6, e_tk7, e_tk8, e_cS, e_cS2, e_cI_0, e_cI_1, e_cI_2, e_cI_3, e_cI_4, e_cI_5, e_cI2, e_cV_0, e_cV_1, e_cV_2, e_cV_3, e_cV_4, e_cV_5, e_cV_6, e_cV_7, e_cV2, e_cV3, e_oi, e_cp, e_r0, e_r1, e_r2, e_r3, e_r4, e_r5, e_r6, e_r60, e_r7, e_W1, e_W2, e_A1, e_A2, e_Wg, e_Ag, e_rf0, e_rf1, e_len0, e_len1, e_vl0, e_vl1, z00, z10, z11, ↓reduceIte, List.getElem?_cons_zero, List.getElem?_cons_succ, List.set_cons_zero, List.set_cons_succ, and_true, true_and, and_self, or_true, true_or, or_false, false_or, Nat.reduceAdd, Nat.reduceSub, Nat.reduceLT, Nat.reduceLeDiff, Nat.reduceEqDiff, Nat.reduceBEq, beq_self_eq_true, Bool.or_false, Bool.false_or, Bool.or_true, Bool.true_or, not_true, not_false_eq_true, reduceCtorEq, s1558_27, s1558_28, s1558_29, s1558_32, s1558_35, s1558_36, s1558_38, s1558_39, s1558_42, s1558_45, s1558_46, s1558_47, s1558_50, s1558_53, s1558_54, s1558_56, s1558_58, s1558_61, s1558_64, s1558_65, s1558_66, s1558_69, s1558_72, s1558_73, s1558_75, s1558_77, s1558_80, s1558_83, s1558_84, s1558_87, s1558_88, md_n, mM, hM, hd1, cal (n1553 _ _) (hE1 _), cal (n1555 _ _ _) (hE2 _), cal (n1553 _ _) (hE3 _), bI_f, runR_nil, runR_app, q_Sk, q_Role, q_Put, q_Num, q_Nam, q_Step, q_Look, q_Roof, q_New, q_Rng, q_Pig, q_Full, q_Ord, q_M1, q_M2, q_OB, q_OR, q_OT, q_OE, q_Deep, q_Up, List.cons_append, List.nil_append]
      · have hE2 := fun Q => m_eatAs0 (m0 := m0) (m1 := m1) (m2 := m2) (m3 := m3) (m11 := m11) (m13 := m13) (m14 := m14) (m15 := m15) (Q := Q) (k := 43) (as := 1) (x := nI 40) (d := d - 1) H hR1 hdm2 (by decide) rfl h2
        have eP : pPig kd (rTk R) = (false, [aSk, aRole 1]) := by
          simp [pPig, pTake, pAs, pSeq, pOk, pNo, skN, aSk, aRole, aNew, aRng, h1, h2, Nat.add_assoc]
        rw [eP]
        simp only [WP_eq, e_go, e_none, e_ite, e_thr0, e_ret, e_thr, e_call, e_Kv, e_Kn, e_Kx, e_K2, e_K20, e_at0, e_s1_0, e_s2_0, e_at1, e_s1_1, e_s2_1, e_at2, e_s1_2, e_s2_2, e_at3, e_s1_3, e_s2_3, e_at4, e_s1_4, e_s2_4, e_at5, e_s1_5, e_s2_5, e_at6, e_s1_6, e_s2_6, e_at7, e_s1_7, e_s2_7, e_at8, e_s1_8, e_s2_8, e_at9, e_s1_9, e_s2_9, e_at10, e_s1_10, e_s2_10, e_at11, e_s1_11, e_s2_11, e_at12, e_s1_12, e_s2_12, e_at13, e_s1_13, e_s2_13, e_kn, e_ki, e_kj, e_kd, e_kr, e_k0, e_lI, e_lJ, e_lD, e_lA, e_lA0, e_sI, e_sJ, e_sD, e_sA, e_sA0, e_inc, e_I2, e_I2z, e_I1, e_I2J, e_J2I, e_I2D, e_J2, e_lcmp, e_dcmp, e_ddiv, e_ifeq, e_iceq, e_ifne, e_icne, e_iflt, e_iclt, e_ifge, e_icge, e_ifgt, e_icgt, e_ifle, e_icle, e_ca, e_ca2, e_en, e_en0, e_sw, e_lk0, e_lk, e_dup, e_dup2, e_pop, e_ci, e_cj, e_cd, e_cr, e_c0, e_gf, e_gf2, e_gf3, e_pf, e_pf2, e_f0, e_f1, e_f2, e_f20, e_len, e_len2, e_al, e_al2, e_al3, e_alJ, e_alJ2, e_alJ3, e_alA, e_alA2, e_alA3, e_as, e_as2, e_as3, e_asB, e_asB2, e_asJ, e_asJ2, e_asJ3, e_asA, e_asA2, e_asA3, e_new, e_na, e_na2, e_cat0, e_cat1, e_tk0, e_tk1, e_tk2, e_tk3, e_tk4, e_tk5, e_tk6, e_tk7, e_tk8, e_cS, e_cS2, e_cI_0, e_cI_1, e_cI_2, e_cI_3, e_cI_4, e_cI_5, e_cI2, e_cV_0, e_cV_1, e_cV_2, e_cV_3, e_cV_4, e_cV_5, e_cV_6, e_cV_7, e_cV2, e_cV3, e_oi, e_cp, e_r0, e_r1, e_r2, e_r3, e_r4, e_r5, e_r6, e_r60, e_r7, e_W1, e_W2, e_A1, e_A2, e_Wg, e_Ag, e_rf0, e_rf1, e_len0, e_len1, e_vl0, e_vl1, z00, z10, z11, ↓reduceIte, List.getElem?_cons_zero, List.getElem?_cons_succ, List.set_cons_zero, List.set_cons_succ, and_true, true_and, and_self, or_true, true_or, or_false, false_or, Nat.reduceAdd, Nat.reduceSub, Nat.reduceLT, Nat.reduceLeDiff, Nat.reduceEqDiff, Nat.reduceBEq, beq_self_eq_true, Bool.or_false, Bool.false_or, Bool.or_true, Bool.true_or, not_true, not_false_eq_true, reduceCtorEq, s1558_27, s1558_28, s1558_29, s1558_32, s1558_35, s1558_36, s1558_38, s1558_39, s1558_42, s1558_45, s1558_46, s1558_47, s1558_50, s1558_53, s1558_54, s1558_56, s1558_58, s1558_61, s1558_64, s1558_65, s1558_66, s1558_69, s1558_72, s1558_73, s1558_75, s1558_77, s1558_80, s1558_83, s1558_84, s1558_87, s1558_88, md_n, mM, hM, hd1, cal (n1553 _ _) (hE1 _), cal (n1555 _ _ _) (hE2 _), bI_f, runR_nil, runR_app, q_Sk, q_Role, q_Put, q_Num, q_Nam, q_Step, q_Look, q_Roof, q_New, q_Rng, q_Pig, q_Full, q_Ord, q_M1, q_M2, q_OB, q_OR, q_OT, q_OE, q_Deep, q_Up, List.cons_append, List.nil_append]
    · have hE1 := fun Q => m_eat0 (m0 := m0) (m1 := m1) (m2 := m2) (m3 := m3) (m11 := m11) (m13 := m13) (m14 := m14) (m15 := m15) (Q := Q) (k := 1) (x := nI 1) (d := d - 1) H hR hdm1 (by decide) rfl h1
      have eP : pPig kd (rTk R) = (false, []) := by
        unfold pPig
        rw [pTake_f h1, pSeq_f rfl]
      rw [eP]
      simp only [WP_eq, e_go, e_none, e_ite, e_thr0, e_ret, e_thr, e_call, e_Kv, e_Kn, e_Kx, e_K2, e_K20, e_at0, e_s1_0, e_s2_0, e_at1, e_s1_1, e_s2_1, e_at2, e_s1_2, e_s2_2, e_at3, e_s1_3, e_s2_3, e_at4, e_s1_4, e_s2_4, e_at5, e_s1_5, e_s2_5, e_at6, e_s1_6, e_s2_6, e_at7, e_s1_7, e_s2_7, e_at8, e_s1_8, e_s2_8, e_at9, e_s1_9, e_s2_9, e_at10, e_s1_10, e_s2_10, e_at11, e_s1_11, e_s2_11, e_at12, e_s1_12, e_s2_12, e_at13, e_s1_13, e_s2_13, e_kn, e_ki, e_kj, e_kd, e_kr, e_k0, e_lI, e_lJ, e_lD, e_lA, e_lA0, e_sI, e_sJ, e_sD, e_sA, e_sA0, e_inc, e_I2, e_I2z, e_I1, e_I2J, e_J2I, e_I2D, e_J2, e_lcmp, e_dcmp, e_ddiv, e_ifeq, e_iceq, e_ifne, e_icne, e_iflt, e_iclt, e_ifge, e_icge, e_ifgt, e_icgt, e_ifle, e_icle, e_ca, e_ca2, e_en, e_en0, e_sw, e_lk0, e_lk, e_dup, e_dup2, e_pop, e_ci, e_cj, e_cd, e_cr, e_c0, e_gf, e_gf2, e_gf3, e_pf, e_pf2, e_f0, e_f1, e_f2, e_f20, e_len, e_len2, e_al, e_al2, e_al3, e_alJ, e_alJ2, e_alJ3, e_alA, e_alA2, e_alA3, e_as, e_as2, e_as3, e_asB, e_asB2, e_asJ, e_asJ2, e_asJ3, e_asA, e_asA2, e_asA3, e_new, e_na, e_na2, e_cat0, e_cat1, e_tk0, e_tk1, e_tk2, e_tk3, e_tk4, e_tk5, e_tk6, e_tk7, e_tk8, e_cS, e_cS2, e_cI_0, e_cI_1, e_cI_2, e_cI_3, e_cI_4, e_cI_5, e_cI2, e_cV_0, e_cV_1, e_cV_2, e_cV_3, e_cV_4, e_cV_5, e_cV_6, e_cV_7, e_cV2, e_cV3, e_oi, e_cp, e_r0, e_r1, e_r2, e_r3, e_r4, e_r5, e_r6, e_r60, e_r7, e_W1, e_W2, e_A1, e_A2, e_Wg, e_Ag, e_rf0, e_rf1, e_len0, e_len1, e_vl0, e_vl1, z00, z10, z11, ↓reduceIte, List.getElem?_cons_zero, List.getElem?_cons_succ, List.set_cons_zero, List.set_cons_succ, and_true, true_and, and_self, or_true, true_or, or_false, false_or, Nat.reduceAdd, Nat.reduceSub, Nat.reduceLT, Nat.reduceLeDiff, Nat.reduceEqDiff, Nat.reduceBEq, beq_self_eq_true, Bool.or_false, Bool.false_or, Bool.or_true, Bool.true_or, not_true, not_false_eq_true, reduceCtorEq, s1558_27, s1558_28, s1558_29, s1558_32, s1558_35, s1558_36, s1558_38, s1558_39, s1558_42, s1558_45, s1558_46, s1558_47, s1558_50, s1558_53, s1558_54, s1558_56, s1558_58, s1558_61, s1558_64, s1558_65, s1558_66, s1558_69, s1558_72, s1558_73, s1558_75, s1558_77, s1558_80, s1558_83, s1558_84, s1558_87, s1558_88, md_n, mM, hM, hd1, cal (n1553 _ _) (hE1 _), bI_f, runR_nil, runR_app, q_Sk, q_Role, q_Put, q_Num, q_Nam, q_Step, q_Look, q_Roof, q_New, q_Rng, q_Pig, q_Full, q_Ord, q_M1, q_M2, q_OB, q_OR, q_OT, q_OE, q_Deep, q_Up, List.cons_append, List.nil_append]
theorem r_linesL {d : Nat} {σ : mxS} {M kn fr mn rl mt g NT : Nat} {kd : Nat → Nat} {kf ff nf : Nat → Int32} {m0 m1 m2 m3 m11 m13 m14 m15 : Value} {num : Nat → Int32} (H : mdC σ M kn fr mn rl mt g kd NT kf ff nf) (hE : kd NT = 45 ∨ kd NT = 46) (hnum : ∀ d' R, rTk R ≤ NT → kd (rTk R) = 44 → ∀ Q, WP d' 1570 0 [some (.ref M), some (.int (nI (rTk R))), none, none] [] (mdW σ m0 m1 m2 m3 m11 m13 m14 m15 M kn fr mn rl mt g R) Q = Q (.inl (some (.int (num (rTk R))))) (mdW σ m0 m1 m2 m3 m11 m13 m14 m15 M kn fr mn rl mt g R)) (hd : 79 ≤ d) : ∀ m R, rTk R ≤ NT → rDp R = 0 → rOr R ≤ rTk R → 401 - rTk R ≤ m → sfR num R (pLines kd m (rTk R)).2 → ∀ {Q : Option Value ⊕ Nat → mxS → Prop}, WP d 1557 51 [some (.ref M)] [] (mdW σ m0 m1 m2 m3 m11 m13 m14 m15 M kn fr mn rl mt g R) Q = Q (.inl (some (.int (bI (pLines kd m (rTk R)).1)))) (mdW σ m0 m1 m2 m3 m11 m13 m14 m15 M kn fr mn rl mt g (runR num R (pLines kd m (rTk R)).2)) := by
  have mM := fun R => md_M (m0 := m0) (m1 := m1) (m2 := m2) (m3 := m3) (m11 := m11) (m13 := m13) (m14 := m14) (m15 := m15) H R
  have hM := H.1.1
  have hN4 := H.2.2.2.2
  have hd1 : 1 ≤ d := by omega
  have hdm1 : 1 ≤ d - 1 := by omega
  intro m
  induction m with
  | zero =>
    intro R hR _ _ hm _ Q
    omega
  | succ m ih =>
    intro R hR hDp hor hm hsf Q
    by_cases h45 : kd (rTk R) = 45
    · have e : pLines kd (m + 1) (rTk R) = (true, []) := by rw [pLines, if_pos h45]; rfl
      have hI := fun Q => m_is1 (m0 := m0) (m1 := m1) (m2 := m2) (m3 := m3) (m11 := m11) (m13 := m13) (m14 := m14) (m15 := m15) (Q := Q) (k := 45) (x := nI 900) (d := d - 1) H hR (by decide) rfl h45
      rw [e]
      conv => lhs; rw [WP_eq, s1557_51]
      simp only [WP_eq, e_go, e_none, e_ite, e_thr0, e_ret, e_thr, e_call, e_Kv, e_Kn, e_Kx, e_K2, e_K20, e_at0, e_s1_0, e_s2_0, e_at1, e_s1_1, e_s2_1, e_at2, e_s1_2, e_s2_2, e_at3, e_s1_3, e_s2_3, e_at4, e_s1_4, e_s2_4, e_at5, e_s1_5, e_s2_5, e_at6, e_s1_6, e_s2_6, e_at7, e_s1_7, e_s2_7, e_at8, e_s1_8, e_s2_8, e_at9, e_s1_9, e_s2_9, e_at10, e_s1_10, e_s2_10, e_at11, e_s1_11, e_s2_11, e_at12, e_s1_12, e_s2_12, e_at13, e_s1_13, e_s2_13, e_kn, e_ki, e_kj, e_kd, e_kr, e_k0, e_lI, e_lJ, e_lD, e_lA, e_lA0, e_sI, e_sJ, e_sD, e_sA, e_sA0, e_inc, e_I2, e_I2z, e_I1, e_I2J, e_J2I, e_I2D, e_J2, e_lcmp, e_dcmp, e_ddiv, e_ifeq, e_iceq, e_ifne, e_icne, e_iflt, e_iclt, e_ifge, e_icge, e_ifgt, e_icgt, e_ifle, e_icle, e_ca, e_ca2, e_en, e_en0, e_sw, e_lk0, e_lk, e_dup, e_dup2, e_pop, e_ci, e_cj, e_cd, e_cr, e_c0, e_gf, e_gf2, e_gf3, e_pf, e_pf2, e_f0, e_f1, e_f2, e_f20, e_len, e_len2, e_al, e_al2, e_al3, e_alJ, e_alJ2, e_alJ3, e_alA, e_alA2, e_alA3, e_as, e_as2, e_as3, e_asB, e_asB2, e_asJ, e_asJ2, e_asJ3, e_asA, e_asA2, e_asA3, e_new, e_na, e_na2, e_cat0, e_cat1, e_tk0, e_tk1, e_tk2, e_tk3, e_tk4, e_tk5, e_tk6, e_tk7, e_tk8, e_cS, e_cS2, e_cI_0, e_cI_1, e_cI_2, e_cI_3, e_cI_4, e_cI_5, e_cI2, e_cV_0, e_cV_1, e_cV_2, e_cV_3, e_cV_4, e_cV_5, e_cV_6, e_cV_7, e_cV2, e_cV3, e_oi, e_cp, e_r0, e_r1, e_r2, e_r3, e_r4, e_r5, e_r6, e_r60, e_r7, e_W1, e_W2, e_A1, e_A2, e_Wg, e_Ag, e_rf0, e_rf1, e_len0, e_len1, e_vl0, e_vl1, z00, z10, z11, ↓reduceIte, List.getElem?_cons_zero, List.getElem?_cons_succ, List.set_cons_zero, List.set_cons_succ, and_true, true_and, and_self, or_true, true_or, or_false, false_or, Nat.reduceAdd, Nat.reduceSub, Nat.reduceLT, Nat.reduceLeDiff, Nat.reduceEqDiff, Nat.reduceBEq, beq_self_eq_true, Bool.or_false, Bool.false_or, Bool.or_true, Bool.true_or, not_true, not_false_eq_true, reduceCtorEq, s1557_52, s1557_55, s1557_58, s1557_61, s1557_62, s1557_65, s1557_68, s1557_69, s1557_71, s1557_74, s1557_77, s1557_78, s1557_79, s1557_80, md_n, mM, hM, hd1, cal (n1551 _ _) (hI _), bI_t, runR_nil, runR_app, q_Sk, q_Role, q_Put, q_Num, q_Nam, q_Step, q_Look, q_Roof, q_New, q_Rng, q_Pig, q_Full, q_Ord, q_M1, q_M2, q_OB, q_OR, q_OT, q_OE, q_Deep, q_Up, List.cons_append, List.nil_append]
    · have e : pLines kd (m + 1) (rTk R) = pSeq (rTk R) (pSeq (rTk R) (pLine kd (rTk R)) (pTake kd 31)) (pLines kd m) := by rw [pLines, if_neg h45]
      have hI := fun Q => m_is0 (m0 := m0) (m1 := m1) (m2 := m2) (m3 := m3) (m11 := m11) (m13 := m13) (m14 := m14) (m15 := m15) (Q := Q) (k := 45) (x := nI 900) (d := d - 1) H hR (by decide) rfl h45
      rw [e] at hsf ⊢
      have hB1 := pB_line hE (rTk R) hR
      cases hb1 : (pLine kd (rTk R)).1 with
      | false =>
        rw [pSeq_f (a := pLine kd (rTk R)) hb1, pSeq_f hb1] at hsf ⊢
        have hL := fun Q => r_line (Q := Q) (m0 := m0) (m1 := m1) (m2 := m2) (m3 := m3) (m11 := m11) (m13 := m13) (m14 := m14) (m15 := m15) (d := d - 1) H hE hnum (by omega) hR hDp (by omega) hsf
        simp only [hb1, bI_f] at hL ⊢
        conv => lhs; rw [WP_eq, s1557_51]
        simp only [WP_eq, e_go, e_none, e_ite, e_thr0, e_ret, e_thr, e_call, e_Kv, e_Kn, e_Kx, e_K2, e_K20, e_at0, e_s1_0, e_s2_0, e_at1, e_s1_1, e_s2_1, e_at2, e_s1_2, e_s2_2, e_at3, e_s1_3, e_s2_3, e_at4, e_s1_4, e_s2_4, e_at5, e_s1_5, e_s2_5, e_at6, e_s1_6, e_s2_6, e_at7, e_s1_7, e_s2_7, e_at8, e_s1_8, e_s2_8, e_at9, e_s1_9, e_s2_9, e_at10, e_s1_10, e_s2_10, e_at11, e_s1_11, e_s2_11, e_at12, e_s1_12, e_s2_12, e_at13, e_s1_13, e_s2_13, e_kn, e_ki, e_kj, e_kd, e_kr, e_k0, e_lI, e_lJ, e_lD, e_lA, e_lA0, e_sI, e_sJ, e_sD, e_sA, e_sA0, e_inc, e_I2, e_I2z, e_I1, e_I2J, e_J2I, e_I2D, e_J2, e_lcmp, e_dcmp, e_ddiv, e_ifeq, e_iceq, e_ifne, e_icne, e_iflt, e_iclt, e_ifge, e_icge, e_ifgt, e_icgt, e_ifle, e_icle, e_ca, e_ca2, e_en, e_en0, e_sw, e_lk0, e_lk, e_dup, e_dup2, e_pop, e_ci, e_cj, e_cd, e_cr, e_c0, e_gf, e_gf2, e_gf3, e_pf, e_pf2, e_f0, e_f1, e_f2, e_f20, e_len, e_len2, e_al, e_al2, e_al3, e_alJ, e_alJ2, e_alJ3, e_alA, e_alA2, e_alA3, e_as, e_as2, e_as3, e_asB, e_asB2, e_asJ, e_asJ2, e_asJ3, e_asA, e_asA2, e_asA3, e_new, e_na, e_na2, e_cat0, e_cat1, e_tk0, e_tk1, e_tk2, e_tk3, e_tk4, e_tk5, e_tk6, e_tk7, e_tk8, e_cS, e_cS2, e_cI_0, e_cI_1, e_cI_2, e_cI_3, e_cI_4, e_cI_5, e_cI2, e_cV_0, e_cV_1, e_cV_2, e_cV_3, e_cV_4, e_cV_5, e_cV_6, e_cV_7, e_cV2, e_cV3, e_oi, e_cp, e_r0, e_r1, e_r2, e_r3, e_r4, e_r5, e_r6, e_r60, e_r7, e_W1, e_W2, e_A1, e_A2, e_Wg, e_Ag, e_rf0, e_rf1, e_len0, e_len1, e_vl0, e_vl1, z00, z10, z11, ↓reduceIte, List.getElem?_cons_zero, List.getElem?_cons_succ, List.set_cons_zero, List.set_cons_succ, and_true, true_and, and_self, or_true, true_or, or_false, false_or, Nat.reduceAdd, Nat.reduceSub, Nat.reduceLT, Nat.reduceLeDiff, Nat.reduceEqDiff, Nat.reduceBEq, beq_self_eq_true, Bool.or_false, Bool.false_or, Bool.or_true, Bool.true_or, not_true, not_false_eq_true, reduceCtorEq, s1557_52, s1557_55, s1557_58, s1557_61, s1557_62, s1557_65, s1557_68, s1557_69, s1557_71, s1557_74, s1557_77, s1557_78, s1557_79, s1557_80, md_n, mM, hM, hd1, cal (n1551 _ _) (hI _), cal (n1558 _) (hL _)]
      | true =>
        rw [pSeq_t (a := pLine kd (rTk R)) hb1] at hsf ⊢
        have hO1 := o_line (kd := kd) (rTk R)
        have t2 : rTk (runR num R (pLine kd (rTk R)).2) = rTk R + skN (pLine kd (rTk R)).2 := run_tk num _ R
        have d2 : rDp (runR num R (pLine kd (rTk R)).2) = 0 := by rw [run_dp, d_line _ hb1, hDp]
        have o2 : rOr (runR num R (pLine kd (rTk R)).2) = rOr R + obN (pLine kd (rTk R)).2 := run_or num _ R
        by_cases h31 : kd (rTk R + skN (pLine kd (rTk R)).2) = 31
        · rw [pTake_t h31, pSeq_t rfl] at hsf ⊢
          have hsf' : sfR num R (((pLine kd (rTk R)).2 ++ [aSk]) ++ (pLines kd m (rTk R + skN ((pLine kd (rTk R)).2 ++ [aSk]))).2) := hsf
          rw [sf_app, sf_app] at hsf'
          have hL := fun Q => r_line (Q := Q) (m0 := m0) (m1 := m1) (m2 := m2) (m3 := m3) (m11 := m11) (m13 := m13) (m14 := m14) (m15 := m15) (d := d - 1) H hE hnum (by omega) hR hDp (by omega) hsf'.1.1
          simp only [hb1, bI_t] at hL
          have hsf2 := hsf'.2
          simp only [runR_app] at hsf2
          have eL : rTk R + skN ((pLine kd (rTk R)).2 ++ [aSk]) = rTk R + skN (pLine kd (rTk R)).2 + 1 := by rw [skN_app, ← Nat.add_assoc]; rfl
          simp only [eL] at hsf2 ⊢
          simp only [runR_nil, runR_app, q_Sk, q_Role, q_Put, q_Num, q_Nam, q_Step, q_Look, q_Roof, q_New, q_Rng, q_Pig, q_Full, q_Ord, q_M1, q_M2, q_OB, q_OR, q_OT, q_OE, q_Deep, q_Up, List.cons_append, List.nil_append] at hsf2 ⊢
          generalize runR num R (pLine kd (rTk R)).2 = R2 at *
          generalize hj2 : rTk R + skN (pLine kd (rTk R)).2 = j2 at *
          have hR2N : rTk R2 ≤ NT := by rw [t2]; exact hB1
          have hlt2 : rTk R2 < NT := nt_lt hE hR2N ((congrArg kd t2).trans h31) (by decide)
          have hT := fun Q => m_eatSign1 (m0 := m0) (m1 := m1) (m2 := m2) (m3 := m3) (m11 := m11) (m13 := m13) (m14 := m14) (m15 := m15) (Q := Q) (k := 31) (c := 59) (d := d - 1) H hR2N (by omega) (by decide) rfl (by rw [t2]; exact h31)
          have t3 : rTk (uSk R2) = j2 + 1 := congrArg (· + 1) t2
          have hge : rTk R ≤ j2 := by omega
          have IH := fun Q => ih (uSk R2) hlt2 d2 (by show rOr R2 ≤ rTk R2 + 1; omega) (by rw [t3]; omega) (by rw [t3]; exact hsf2) (Q := Q)
          rw [t3] at IH
          conv => lhs; rw [WP_eq, s1557_51]
          simp only [WP_eq, e_go, e_none, e_ite, e_thr0, e_ret, e_thr, e_call, e_Kv, e_Kn, e_Kx, e_K2, e_K20, e_at0, e_s1_0, e_s2_0, e_at1, e_s1_1, e_s2_1, e_at2, e_s1_2, e_s2_2, e_at3, e_s1_3, e_s2_3, e_at4, e_s1_4, e_s2_4, e_at5, e_s1_5, e_s2_5, e_at6, e_s1_6, e_s2_6, e_at7, e_s1_7, e_s2_7, e_at8, e_s1_8, e_s2_8, e_at9, e_s1_9, e_s2_9, e_at10, e_s1_10, e_s2_10, e_at11, e_s1_11, e_s2_11, e_at12, e_s1_12, e_s2_12, e_at13, e_s1_13, e_s2_13, e_kn, e_ki, e_kj, e_kd, e_kr, e_k0, e_lI, e_lJ, e_lD, e_lA, e_lA0, e_sI, e_sJ, e_sD, e_sA, e_sA0, e_inc, e_I2, e_I2z, e_I1, e_I2J, e_J2I, e_I2D, e_J2, e_lcmp, e_dcmp, e_ddiv, e_ifeq, e_iceq, e_ifne, e_icne, e_iflt, e_iclt, e_ifge, e_icge, e_ifgt, e_icgt, e_ifle, e_icle, e_ca, e_ca2, e_en, e_en0, e_sw, e_lk0, e_lk, e_dup, e_dup2, e_pop, e_ci, e_cj, e_cd, e_cr, e_c0, e_gf, e_gf2, e_gf3, e_pf, e_pf2, e_f0, e_f1, e_f2, e_f20, e_len, e_len2, e_al, e_al2, e_al3, e_alJ, e_alJ2, e_alJ3, e_alA, e_alA2, e_alA3, e_as, e_as2, e_as3, e_asB, e_asB2, e_asJ, e_asJ2, e_asJ3, e_asA, e_asA2, e_asA3, e_new, e_na, e_na2, e_cat0, e_cat1, e_tk0, e_tk1, e_tk2, e_tk3, e_tk4, e_tk5, e_tk6, e_tk7, e_tk8, e_cS, e_cS2, e_cI_0, e_cI_1, e_cI_2, e_cI_3, e_cI_4, e_cI_5, e_cI2, e_cV_0, e_cV_1, e_cV_2, e_cV_3, e_cV_4, e_cV_5, e_cV_6, e_cV_7, e_cV2, e_cV3, e_oi, e_cp, e_r0, e_r1, e_r2, e_r3, e_r4, e_r5, e_r6, e_r60, e_r7, e_W1, e_W2, e_A1, e_A2, e_Wg, e_Ag, e_rf0, e_rf1, e_len0, e_len1, e_vl0, e_vl1, z00, z10, z11, ↓reduceIte, List.getElem?_cons_zero, List.getElem?_cons_succ, List.set_cons_zero, List.set_cons_succ, and_true, true_and, and_self, or_true, true_or, or_false, false_or, Nat.reduceAdd, Nat.reduceSub, Nat.reduceLT, Nat.reduceLeDiff, Nat.reduceEqDiff, Nat.reduceBEq, beq_self_eq_true, Bool.or_false, Bool.false_or, Bool.or_true, Bool.true_or, not_true, not_false_eq_true, reduceCtorEq, s1557_52, s1557_55, s1557_58, s1557_61, s1557_62, s1557_65, s1557_68, s1557_69, s1557_71, s1557_74, s1557_77, s1557_78, s1557_79, s1557_80, md_n, mM, hM, hd1, cal (n1551 _ _) (hI _), cal (n1558 _) (hL _), cal (n1554 _ _) (hT _)]
          exact stk (IH _)
        · rw [pTake_f h31, pSeq_f rfl] at hsf ⊢
          have hsf' : sfR num R ((pLine kd (rTk R)).2 ++ []) := hsf
          rw [sf_app] at hsf'
          have hL := fun Q => r_line (Q := Q) (m0 := m0) (m1 := m1) (m2 := m2) (m3 := m3) (m11 := m11) (m13 := m13) (m14 := m14) (m15 := m15) (d := d - 1) H hE hnum (by omega) hR hDp (by omega) hsf'.1
          simp only [hb1, bI_t] at hL
          simp only [bI_f, runR_nil, runR_app, q_Sk, q_Role, q_Put, q_Num, q_Nam, q_Step, q_Look, q_Roof, q_New, q_Rng, q_Pig, q_Full, q_Ord, q_M1, q_M2, q_OB, q_OR, q_OT, q_OE, q_Deep, q_Up, List.cons_append, List.nil_append]
          generalize runR num R (pLine kd (rTk R)).2 = R2 at *
          have hR2N : rTk R2 ≤ NT := by rw [t2]; exact hB1
          have hT := fun Q => m_eatSign0 (m0 := m0) (m1 := m1) (m2 := m2) (m3 := m3) (m11 := m11) (m13 := m13) (m14 := m14) (m15 := m15) (Q := Q) (k := 31) (c := 59) (d := d - 1) H hR2N (by omega) (by decide) rfl (by rw [t2]; exact h31)
          conv => lhs; rw [WP_eq, s1557_51]
          simp only [WP_eq, e_go, e_none, e_ite, e_thr0, e_ret, e_thr, e_call, e_Kv, e_Kn, e_Kx, e_K2, e_K20, e_at0, e_s1_0, e_s2_0, e_at1, e_s1_1, e_s2_1, e_at2, e_s1_2, e_s2_2, e_at3, e_s1_3, e_s2_3, e_at4, e_s1_4, e_s2_4, e_at5, e_s1_5, e_s2_5, e_at6, e_s1_6, e_s2_6, e_at7, e_s1_7, e_s2_7, e_at8, e_s1_8, e_s2_8, e_at9, e_s1_9, e_s2_9, e_at10, e_s1_10, e_s2_10, e_at11, e_s1_11, e_s2_11, e_at12, e_s1_12, e_s2_12, e_at13, e_s1_13, e_s2_13, e_kn, e_ki, e_kj, e_kd, e_kr, e_k0, e_lI, e_lJ, e_lD, e_lA, e_lA0, e_sI, e_sJ, e_sD, e_sA, e_sA0, e_inc, e_I2, e_I2z, e_I1, e_I2J, e_J2I, e_I2D, e_J2, e_lcmp, e_dcmp, e_ddiv, e_ifeq, e_iceq, e_ifne, e_icne, e_iflt, e_iclt, e_ifge, e_icge, e_ifgt, e_icgt, e_ifle, e_icle, e_ca, e_ca2, e_en, e_en0, e_sw, e_lk0, e_lk, e_dup, e_dup2, e_pop, e_ci, e_cj, e_cd, e_cr, e_c0, e_gf, e_gf2, e_gf3, e_pf, e_pf2, e_f0, e_f1, e_f2, e_f20, e_len, e_len2, e_al, e_al2, e_al3, e_alJ, e_alJ2, e_alJ3, e_alA, e_alA2, e_alA3, e_as, e_as2, e_as3, e_asB, e_asB2, e_asJ, e_asJ2, e_asJ3, e_asA, e_asA2, e_asA3, e_new, e_na, e_na2, e_cat0, e_cat1, e_tk0, e_tk1, e_tk2, e_tk3, e_tk4, e_tk5, e_tk6, e_tk7, e_tk8, e_cS, e_cS2, e_cI_0, e_cI_1, e_cI_2, e_cI_3, e_cI_4, e_cI_5, e_cI2, e_cV_0, e_cV_1, e_cV_2, e_cV_3, e_cV_4, e_cV_5, e_cV_6, e_cV_7, e_cV2, e_cV3, e_oi, e_cp, e_r0, e_r1, e_r2, e_r3, e_r4, e_r5, e_r6, e_r60, e_r7, e_W1, e_W2, e_A1, e_A2, e_Wg, e_Ag, e_rf0, e_rf1, e_len0, e_len1, e_vl0, e_vl1, z00, z10, z11, ↓reduceIte, List.getElem?_cons_zero, List.getElem?_cons_succ, List.set_cons_zero, List.set_cons_succ, and_true, true_and, and_self, or_true, true_or, or_false, false_or, Nat.reduceAdd, Nat.reduceSub, Nat.reduceLT, Nat.reduceLeDiff, Nat.reduceEqDiff, Nat.reduceBEq, beq_self_eq_true, Bool.or_false, Bool.false_or, Bool.or_true, Bool.true_or, not_true, not_false_eq_true, reduceCtorEq, s1557_52, s1557_55, s1557_58, s1557_61, s1557_62, s1557_65, s1557_68, s1557_69, s1557_71, s1557_74, s1557_77, s1557_78, s1557_79, s1557_80, md_n, mM, hM, hd1, cal (n1551 _ _) (hI _), cal (n1558 _) (hL _), cal (n1554 _ _) (hT _)]
theorem roofL_t {kd : Nat → Nat} {m i : Nat} (h : kd i = 44) : pSeq i (pRoofL kd (m + 1) i) (pTake kd 31) = ((pSeq (i + 1) (pRoofL kd m (i + 1)) (pTake kd 31)).1, aRole 5 :: aRoof :: aSk :: (pSeq (i + 1) (pRoofL kd m (i + 1)) (pTake kd 31)).2) := by
  rw [pRoofL, if_pos h, pSeq_ok]
  have e1 : i + skN [aRole 5, aRoof, aSk] = i + 1 := rfl
  rw [e1]
  generalize pRoofL kd m (i + 1) = x
  obtain ⟨xb, xt⟩ := x
  cases xb with
  | false =>
    rw [pSeq_f rfl, pSeq_f rfl]
    rfl
  | true =>
    rw [pSeq_t rfl, pSeq_t rfl]
    have e2 : i + skN ([aRole 5, aRoof, aSk] ++ xt) = i + 1 + skN xt := by rw [skN_app, ← Nat.add_assoc]; rfl
    simp only [e2]
    simp
theorem r_roofL {d : Nat} {σ : mxS} {M kn fr mn rl mt g NT : Nat} {kd : Nat → Nat} {kf ff nf : Nat → Int32} {m0 m1 m2 m3 m11 m13 m14 m15 : Value} {num : Nat → Int32} (H : mdC σ M kn fr mn rl mt g kd NT kf ff nf) (hE : kd NT = 45 ∨ kd NT = 46) (hd : 3 ≤ d) : ∀ m R, rTk R ≤ NT → 401 - rTk R ≤ m → ∀ {Q : Option Value ⊕ Nat → mxS → Prop}, WP d 1557 20 [some (.ref M)] [] (mdW σ m0 m1 m2 m3 m11 m13 m14 m15 M kn fr mn rl mt g R) Q = if (pSeq (rTk R) (pRoofL kd m (rTk R)) (pTake kd 31)).1 = true then WP d 1557 51 [some (.ref M)] [] (mdW σ m0 m1 m2 m3 m11 m13 m14 m15 M kn fr mn rl mt g (runR num R (pSeq (rTk R) (pRoofL kd m (rTk R)) (pTake kd 31)).2)) Q else Q (.inl (some (.int (nI 0)))) (mdW σ m0 m1 m2 m3 m11 m13 m14 m15 M kn fr mn rl mt g (runR num R (pSeq (rTk R) (pRoofL kd m (rTk R)) (pTake kd 31)).2)) := by
  have mM := fun R => md_M (m0 := m0) (m1 := m1) (m2 := m2) (m3 := m3) (m11 := m11) (m13 := m13) (m14 := m14) (m15 := m15) H R
  have hM := H.1.1
  have hN4 := H.2.2.2.2
  have hd1 : 1 ≤ d := by omega
  have hdm1 : 1 ≤ d - 1 := by omega
  intro m
  induction m with
  | zero =>
    intro R hR hm Q
    omega
  | succ m ih =>
    intro R hR hm Q
    by_cases h44 : kd (rTk R) = 44
    · have hI := fun Q => m_is1 (m0 := m0) (m1 := m1) (m2 := m2) (m3 := m3) (m11 := m11) (m13 := m13) (m14 := m14) (m15 := m15) (Q := Q) (k := 44) (x := nI 41) (d := d - 1) H hR (by decide) rfl h44
      have hA := fun Q => m_eatAs1 (m0 := m0) (m1 := m1) (m2 := m2) (m3 := m3) (m11 := m11) (m13 := m13) (m14 := m14) (m15 := m15) (Q := Q) (k := 44) (as := 5) (x := nI 41) (d := d - 1) H hR (by omega) (by decide) rfl h44
      have hlt : rTk R < NT := nt_lt hE hR h44 (by decide)
      have IH := fun Q => ih (uSk (uRole 5 R)) hlt (by show 401 - (rTk R + 1) ≤ m; omega) (Q := Q)
      rw [show rTk (uSk (uRole 5 R)) = rTk R + 1 from rfl] at IH
      rw [roofL_t h44]
      simp only [runR_nil, runR_app, q_Sk, q_Role, q_Put, q_Num, q_Nam, q_Step, q_Look, q_Roof, q_New, q_Rng, q_Pig, q_Full, q_Ord, q_M1, q_M2, q_OB, q_OR, q_OT, q_OE, q_Deep, q_Up, List.cons_append, List.nil_append]
      refine Eq.trans ?_ (IH Q)
      conv => lhs; rw [WP_eq, s1557_20]
      simp only [WP_eq, e_go, e_none, e_ite, e_thr0, e_ret, e_thr, e_call, e_Kv, e_Kn, e_Kx, e_K2, e_K20, e_at0, e_s1_0, e_s2_0, e_at1, e_s1_1, e_s2_1, e_at2, e_s1_2, e_s2_2, e_at3, e_s1_3, e_s2_3, e_at4, e_s1_4, e_s2_4, e_at5, e_s1_5, e_s2_5, e_at6, e_s1_6, e_s2_6, e_at7, e_s1_7, e_s2_7, e_at8, e_s1_8, e_s2_8, e_at9, e_s1_9, e_s2_9, e_at10, e_s1_10, e_s2_10, e_at11, e_s1_11, e_s2_11, e_at12, e_s1_12, e_s2_12, e_at13, e_s1_13, e_s2_13, e_kn, e_ki, e_kj, e_kd, e_kr, e_k0, e_lI, e_lJ, e_lD, e_lA, e_lA0, e_sI, e_sJ, e_sD, e_sA, e_sA0, e_inc, e_I2, e_I2z, e_I1, e_I2J, e_J2I, e_I2D, e_J2, e_lcmp, e_dcmp, e_ddiv, e_ifeq, e_iceq, e_ifne, e_icne, e_iflt, e_iclt, e_ifge, e_icge, e_ifgt, e_icgt, e_ifle, e_icle, e_ca, e_ca2, e_en, e_en0, e_sw, e_lk0, e_lk, e_dup, e_dup2, e_pop, e_ci, e_cj, e_cd, e_cr, e_c0, e_gf, e_gf2, e_gf3, e_pf, e_pf2, e_f0, e_f1, e_f2, e_f20, e_len, e_len2, e_al, e_al2, e_al3, e_alJ, e_alJ2, e_alJ3, e_alA, e_alA2, e_alA3, e_as, e_as2, e_as3, e_asB, e_asB2, e_asJ, e_asJ2, e_asJ3, e_asA, e_asA2, e_asA3, e_new, e_na, e_na2, e_cat0, e_cat1, e_tk0, e_tk1, e_tk2, e_tk3, e_tk4, e_tk5, e_tk6, e_tk7, e_tk8, e_cS, e_cS2, e_cI_0, e_cI_1, e_cI_2, e_cI_3, e_cI_4, e_cI_5, e_cI2, e_cV_0, e_cV_1, e_cV_2, e_cV_3, e_cV_4, e_cV_5, e_cV_6, e_cV_7, e_cV2, e_cV3, e_oi, e_cp, e_r0, e_r1, e_r2, e_r3, e_r4, e_r5, e_r6, e_r60, e_r7, e_W1, e_W2, e_A1, e_A2, e_Wg, e_Ag, e_rf0, e_rf1, e_len0, e_len1, e_vl0, e_vl1, z00, z10, z11, ↓reduceIte, List.getElem?_cons_zero, List.getElem?_cons_succ, List.set_cons_zero, List.set_cons_succ, and_true, true_and, and_self, or_true, true_or, or_false, false_or, Nat.reduceAdd, Nat.reduceSub, Nat.reduceLT, Nat.reduceLeDiff, Nat.reduceEqDiff, Nat.reduceBEq, beq_self_eq_true, Bool.or_false, Bool.false_or, Bool.or_true, Bool.true_or, not_true, not_false_eq_true, reduceCtorEq, s1557_21, s1557_23, s1557_26, s1557_29, s1557_30, s1557_32, s1557_33, s1557_36, s1557_37, md_n, mM, hM, hd1, cal (n1551 _ _) (hI _), cal (n1555 _ _ _) (hA _)]
      all_goals rfl
    · have hI := fun Q => m_is0 (m0 := m0) (m1 := m1) (m2 := m2) (m3 := m3) (m11 := m11) (m13 := m13) (m14 := m14) (m15 := m15) (Q := Q) (k := 44) (x := nI 41) (d := d - 1) H hR (by decide) rfl h44
      have e : pRoofL kd (m + 1) (rTk R) = (true, []) := by rw [pRoofL, if_neg h44]; rfl
      rw [e, pSeq_t rfl]
      have e1 : rTk R + skN [] = rTk R := rfl
      simp only [e1, List.nil_append]
      conv => lhs; rw [WP_eq, s1557_20]
      by_cases h31 : kd (rTk R) = 31
      · have hT := fun Q => m_eatSign1 (m0 := m0) (m1 := m1) (m2 := m2) (m3 := m3) (m11 := m11) (m13 := m13) (m14 := m14) (m15 := m15) (Q := Q) (k := 31) (c := 59) (d := d - 1) H hR (by omega) (by decide) rfl h31
        rw [pTake_t h31]
        simp only [WP_eq, e_go, e_none, e_ite, e_thr0, e_ret, e_thr, e_call, e_Kv, e_Kn, e_Kx, e_K2, e_K20, e_at0, e_s1_0, e_s2_0, e_at1, e_s1_1, e_s2_1, e_at2, e_s1_2, e_s2_2, e_at3, e_s1_3, e_s2_3, e_at4, e_s1_4, e_s2_4, e_at5, e_s1_5, e_s2_5, e_at6, e_s1_6, e_s2_6, e_at7, e_s1_7, e_s2_7, e_at8, e_s1_8, e_s2_8, e_at9, e_s1_9, e_s2_9, e_at10, e_s1_10, e_s2_10, e_at11, e_s1_11, e_s2_11, e_at12, e_s1_12, e_s2_12, e_at13, e_s1_13, e_s2_13, e_kn, e_ki, e_kj, e_kd, e_kr, e_k0, e_lI, e_lJ, e_lD, e_lA, e_lA0, e_sI, e_sJ, e_sD, e_sA, e_sA0, e_inc, e_I2, e_I2z, e_I1, e_I2J, e_J2I, e_I2D, e_J2, e_lcmp, e_dcmp, e_ddiv, e_ifeq, e_iceq, e_ifne, e_icne, e_iflt, e_iclt, e_ifge, e_icge, e_ifgt, e_icgt, e_ifle, e_icle, e_ca, e_ca2, e_en, e_en0, e_sw, e_lk0, e_lk, e_dup, e_dup2, e_pop, e_ci, e_cj, e_cd, e_cr, e_c0, e_gf, e_gf2, e_gf3, e_pf, e_pf2, e_f0, e_f1, e_f2, e_f20, e_len, e_len2, e_al, e_al2, e_al3, e_alJ, e_alJ2, e_alJ3, e_alA, e_alA2, e_alA3, e_as, e_as2, e_as3, e_asB, e_asB2, e_asJ, e_asJ2, e_asJ3, e_asA, e_asA2, e_asA3, e_new, e_na, e_na2, e_cat0, e_cat1, e_tk0, e_tk1, e_tk2, e_tk3, e_tk4, e_tk5, e_tk6, e_tk7, e_tk8, e_cS, e_cS2, e_cI_0, e_cI_1, e_cI_2, e_cI_3, e_cI_4, e_cI_5, e_cI2, e_cV_0, e_cV_1, e_cV_2, e_cV_3, e_cV_4, e_cV_5, e_cV_6, e_cV_7, e_cV2, e_cV3, e_oi, e_cp, e_r0, e_r1, e_r2, e_r3, e_r4, e_r5, e_r6, e_r60, e_r7, e_W1, e_W2, e_A1, e_A2, e_Wg, e_Ag, e_rf0, e_rf1, e_len0, e_len1, e_vl0, e_vl1, z00, z10, z11, ↓reduceIte, List.getElem?_cons_zero, List.getElem?_cons_succ, List.set_cons_zero, List.set_cons_succ, and_true, true_and, and_self, or_true, true_or, or_false, false_or, Nat.reduceAdd, Nat.reduceSub, Nat.reduceLT, Nat.reduceLeDiff, Nat.reduceEqDiff, Nat.reduceBEq, beq_self_eq_true, Bool.or_false, Bool.false_or, Bool.or_true, Bool.true_or, not_true, not_false_eq_true, reduceCtorEq, s1557_21, s1557_23, s1557_26, s1557_29, s1557_30, s1557_32, s1557_33, s1557_36, s1557_37, s1557_40, s1557_41, s1557_43, s1557_46, s1557_49, s1557_50, md_n, mM, hM, hd1, cal (n1551 _ _) (hI _), cal (n1554 _ _) (hT _), if_true, runR_nil, runR_app, q_Sk, q_Role, q_Put, q_Num, q_Nam, q_Step, q_Look, q_Roof, q_New, q_Rng, q_Pig, q_Full, q_Ord, q_M1, q_M2, q_OB, q_OR, q_OT, q_OE, q_Deep, q_Up, List.cons_append, List.nil_append]
        all_goals rfl
      · have hT := fun Q => m_eatSign0 (m0 := m0) (m1 := m1) (m2 := m2) (m3 := m3) (m11 := m11) (m13 := m13) (m14 := m14) (m15 := m15) (Q := Q) (k := 31) (c := 59) (d := d - 1) H hR (by omega) (by decide) rfl h31
        rw [pTake_f h31]
        simp only [WP_eq, e_go, e_none, e_ite, e_thr0, e_ret, e_thr, e_call, e_Kv, e_Kn, e_Kx, e_K2, e_K20, e_at0, e_s1_0, e_s2_0, e_at1, e_s1_1, e_s2_1, e_at2, e_s1_2, e_s2_2, e_at3, e_s1_3, e_s2_3, e_at4, e_s1_4, e_s2_4, e_at5, e_s1_5, e_s2_5, e_at6, e_s1_6, e_s2_6, e_at7, e_s1_7, e_s2_7, e_at8, e_s1_8, e_s2_8, e_at9, e_s1_9, e_s2_9, e_at10, e_s1_10, e_s2_10, e_at11, e_s1_11, e_s2_11, e_at12, e_s1_12, e_s2_12, e_at13, e_s1_13, e_s2_13, e_kn, e_ki, e_kj, e_kd, e_kr, e_k0, e_lI, e_lJ, e_lD, e_lA, e_lA0, e_sI, e_sJ, e_sD, e_sA, e_sA0, e_inc, e_I2, e_I2z, e_I1, e_I2J, e_J2I, e_I2D, e_J2, e_lcmp, e_dcmp, e_ddiv, e_ifeq, e_iceq, e_ifne, e_icne, e_iflt, e_iclt, e_ifge, e_icge, e_ifgt, e_icgt, e_ifle, e_icle, e_ca, e_ca2, e_en, e_en0, e_sw, e_lk0, e_lk, e_dup, e_dup2, e_pop, e_ci, e_cj, e_cd, e_cr, e_c0, e_gf, e_gf2, e_gf3, e_pf, e_pf2, e_f0, e_f1, e_f2, e_f20, e_len, e_len2, e_al, e_al2, e_al3, e_alJ, e_alJ2, e_alJ3, e_alA, e_alA2, e_alA3, e_as, e_as2, e_as3, e_asB, e_asB2, e_asJ, e_asJ2, e_asJ3, e_asA, e_asA2, e_asA3, e_new, e_na, e_na2, e_cat0, e_cat1, e_tk0, e_tk1, e_tk2, e_tk3, e_tk4, e_tk5, e_tk6, e_tk7, e_tk8, e_cS, e_cS2, e_cI_0, e_cI_1, e_cI_2, e_cI_3, e_cI_4, e_cI_5, e_cI2, e_cV_0, e_cV_1, e_cV_2, e_cV_3, e_cV_4, e_cV_5, e_cV_6, e_cV_7, e_cV2, e_cV3, e_oi, e_cp, e_r0, e_r1, e_r2, e_r3, e_r4, e_r5, e_r6, e_r60, e_r7, e_W1, e_W2, e_A1, e_A2, e_Wg, e_Ag, e_rf0, e_rf1, e_len0, e_len1, e_vl0, e_vl1, z00, z10, z11, ↓reduceIte, List.getElem?_cons_zero, List.getElem?_cons_succ, List.set_cons_zero, List.set_cons_succ, and_true, true_and, and_self, or_true, true_or, or_false, false_or, Nat.reduceAdd, Nat.reduceSub, Nat.reduceLT, Nat.reduceLeDiff, Nat.reduceEqDiff, Nat.reduceBEq, beq_self_eq_true, Bool.or_false, Bool.false_or, Bool.or_true, Bool.true_or, not_true, not_false_eq_true, reduceCtorEq, s1557_21, s1557_23, s1557_26, s1557_29, s1557_30, s1557_32, s1557_33, s1557_36, s1557_37, s1557_40, s1557_41, s1557_43, s1557_46, s1557_49, s1557_50, md_n, mM, hM, hd1, cal (n1551 _ _) (hI _), cal (n1554 _ _) (hT _), Bool.false_eq_true, if_false, runR_nil, runR_app, q_Sk, q_Role, q_Put, q_Num, q_Nam, q_Step, q_Look, q_Roof, q_New, q_Rng, q_Pig, q_Full, q_Ord, q_M1, q_M2, q_OB, q_OR, q_OT, q_OE, q_Deep, q_Up, List.cons_append, List.nil_append]
theorem ob_roofL {kd : Nat → Nat} : ∀ m i, obN (pRoofL kd m i).2 = 0
  | 0, _ => rfl
  | m + 1, i => by
    rw [pRoofL]
    split
    · rw [pSeq_ok]
      show 0 + (0 + (0 + obN (pRoofL kd m (i + 1)).2)) = 0
      rw [ob_roofL m]
    · rfl
theorem dp_roofL {kd : Nat → Nat} : ∀ m, pD (pRoofL kd m)
  | 0 => fun _ _ _ => rfl
  | m + 1 => fun i h => by
    rw [pRoofL] at h ⊢
    split
    · next hk =>
      rw [if_pos hk] at h
      exact d_seq (d_ok (fun _ => rfl)) (dp_roofL m) h
    · exact fun _ => rfl
theorem r_book {d : Nat} {σ : mxS} {M kn fr mn rl mt g NT : Nat} {kd : Nat → Nat} {kf ff nf : Nat → Int32} {m0 m1 m2 m3 m11 m13 m14 m15 : Value} {num : Nat → Int32} (H : mdC σ M kn fr mn rl mt g kd NT kf ff nf) (hE : kd NT = 45 ∨ kd NT = 46) (hnum : ∀ d' R, rTk R ≤ NT → kd (rTk R) = 44 → ∀ Q, WP d' 1570 0 [some (.ref M), some (.int (nI (rTk R))), none, none] [] (mdW σ m0 m1 m2 m3 m11 m13 m14 m15 M kn fr mn rl mt g R) Q = Q (.inl (some (.int (num (rTk R))))) (mdW σ m0 m1 m2 m3 m11 m13 m14 m15 M kn fr mn rl mt g R)) (hd : 79 ≤ d) {R : MR} (h0 : rTk R = 0) (hDp : rDp R = 0) (hor : rOr R = 0) (hsf : sfR num R (pBook kd).2) {Q : Option Value ⊕ Nat → mxS → Prop} : WP d 1557 0 [some (.ref M)] [] (mdW σ m0 m1 m2 m3 m11 m13 m14 m15 M kn fr mn rl mt g R) Q = Q (.inl (some (.int (bI (pBook kd).1)))) (mdW σ m0 m1 m2 m3 m11 m13 m14 m15 M kn fr mn rl mt g (runR num R (pBook kd).2)) := by
  have mM := fun R => md_M (m0 := m0) (m1 := m1) (m2 := m2) (m3 := m3) (m11 := m11) (m13 := m13) (m14 := m14) (m15 := m15) H R
  have hM := H.1.1
  have hN4 := H.2.2.2.2
  have hd1 : 1 ≤ d := by omega
  have hdm1 : 1 ≤ d - 1 := by omega
  have hR : rTk R ≤ NT := by omega
  unfold pBook pRoofs at hsf ⊢
  by_cases hk0 : kd 0 = 0
  · have hE0 := fun Q => m_eat1 (m0 := m0) (m1 := m1) (m2 := m2) (m3 := m3) (m11 := m11) (m13 := m13) (m14 := m14) (m15 := m15) (Q := Q) (k := 0) (x := nI 0) (d := d - 1) H hR hdm1 (by decide) rfl (by rw [h0]; exact hk0)
    have hlt : rTk R < NT := nt_lt hE hR (k := 0) (by rw [h0]; exact hk0) (by decide)
    have hR1 : rTk (uSk R) ≤ NT := hlt
    have t1 : rTk (uSk R) = 1 := congrArg (· + 1) h0
    rw [pTake_t hk0, pSeq_t (a := (true, [aSk])) rfl] at hsf ⊢
    have e1 : 0 + skN [aSk] = 1 := rfl
    simp only [e1] at hsf ⊢
    by_cases h44 : kd 1 = 44
    · have hA := fun Q => m_eatAs1 (m0 := m0) (m1 := m1) (m2 := m2) (m3 := m3) (m11 := m11) (m13 := m13) (m14 := m14) (m15 := m15) (Q := Q) (k := 44) (as := 5) (x := nI 41) (d := d - 1) H hR1 (by omega) (by decide) rfl (by rw [t1]; exact h44)
      have hlt1 : rTk (uSk R) < NT := nt_lt hE hR1 (k := 44) (by rw [t1]; exact h44) (by decide)
      have t2 : rTk (uSk (uRole 5 (uSk R))) = 2 := congrArg (· + 1) t1
      have hRL := fun Q => r_roofL (Q := Q) (num := num) (m0 := m0) (m1 := m1) (m2 := m2) (m3 := m3) (m11 := m11) (m13 := m13) (m14 := m14) (m15 := m15) (d := d) H hE (by omega) 399 (uSk (uRole 5 (uSk R))) hlt1 (by rw [t2]; decide)
      rw [t2] at hRL
      simp only [h44, if_true] at hsf ⊢
      have eR := roofL_t (m := 399) h44
      simp only [show 401 - 1 = 399 + 1 from rfl] at hsf ⊢
      rw [eR] at hsf ⊢
      have hBr : 2 + skN (pSeq 2 (pRoofL kd 399 2) (pTake kd 31)).2 ≤ NT := sk_seq (pB_roofL hE _ 2 (by rw [← t2]; exact hlt1)) (pB_take hE (by decide))
      have hdX : (pSeq 2 (pRoofL kd 399 2) (pTake kd 31)).1 = true → ∀ x, dpT (pSeq 2 (pRoofL kd 399 2) (pTake kd 31)).2 x = x := d_seq (dp_roofL 399 2) d_take
      have hoX : obN (pSeq 2 (pRoofL kd 399 2) (pTake kd 31)).2 = 0 := by
        have h1 := ob_roofL (kd := kd) 399 2
        unfold pSeq
        split
        · show obN ((pRoofL kd 399 2).2 ++ (pTake kd 31 (2 + skN (pRoofL kd 399 2).2)).2) = 0
          rw [obN_app, h1, obN_eT _ (a_take _)]
        · exact h1
      generalize pSeq 2 (pRoofL kd 399 2) (pTake kd 31) = X at *
      obtain ⟨xb, xt⟩ := X
      have hbk : ∀ Q, WP d 1557 0 [some (.ref M)] [] (mdW σ m0 m1 m2 m3 m11 m13 m14 m15 M kn fr mn rl mt g R) Q = WP d 1557 20 [some (.ref M)] [] (mdW σ m0 m1 m2 m3 m11 m13 m14 m15 M kn fr mn rl mt g (uSk (uRole 5 (uSk R)))) Q := by
        intro Q
        simp only [WP_eq, e_go, e_none, e_ite, e_thr0, e_ret, e_thr, e_call, e_Kv, e_Kn, e_Kx, e_K2, e_K20, e_at0, e_s1_0, e_s2_0, e_at1, e_s1_1, e_s2_1, e_at2, e_s1_2, e_s2_2, e_at3, e_s1_3, e_s2_3, e_at4, e_s1_4, e_s2_4, e_at5, e_s1_5, e_s2_5, e_at6, e_s1_6, e_s2_6, e_at7, e_s1_7, e_s2_7, e_at8, e_s1_8, e_s2_8, e_at9, e_s1_9, e_s2_9, e_at10, e_s1_10, e_s2_10, e_at11, e_s1_11, e_s2_11, e_at12, e_s1_12, e_s2_12, e_at13, e_s1_13, e_s2_13, e_kn, e_ki, e_kj, e_kd, e_kr, e_k0, e_lI, e_lJ, e_lD, e_lA, e_lA0, e_sI, e_sJ, e_sD, e_sA, e_sA0, e_inc, e_I2, e_I2z, e_I1, e_I2J, e_J2I, e_I2D, e_J2, e_lcmp, e_dcmp, e_ddiv, e_ifeq, e_iceq, e_ifne, e_icne, e_iflt, e_iclt, e_ifge, e_icge, e_ifgt, e_icgt, e_ifle, e_icle, e_ca, e_ca2, e_en, e_en0, e_sw, e_lk0, e_lk, e_dup, e_dup2, e_pop, e_ci, e_cj, e_cd, e_cr, e_c0, e_gf, e_gf2, e_gf3, e_pf, e_pf2, e_f0, e_f1, e_f2, e_f20, e_len, e_len2, e_al, e_al2, e_al3, e_alJ, e_alJ2, e_alJ3, e_alA, e_alA2, e_alA3, e_as, e_as2, e_as3, e_asB, e_asB2, e_asJ, e_asJ2, e_asJ3, e_asA, e_asA2, e_asA3, e_new, e_na, e_na2, e_cat0, e_cat1, e_tk0, e_tk1, e_tk2, e_tk3, e_tk4, e_tk5, e_tk6, e_tk7, e_tk8, e_cS, e_cS2, e_cI_0, e_cI_1, e_cI_2, e_cI_3, e_cI_4, e_cI_5, e_cI2, e_cV_0, e_cV_1, e_cV_2, e_cV_3, e_cV_4, e_cV_5, e_cV_6, e_cV_7, e_cV2, e_cV3, e_oi, e_cp, e_r0, e_r1, e_r2, e_r3, e_r4, e_r5, e_r6, e_r60, e_r7, e_W1, e_W2, e_A1, e_A2, e_Wg, e_Ag, e_rf0, e_rf1, e_len0, e_len1, e_vl0, e_vl1, z00, z10, z11, ↓reduceIte, List.getElem?_cons_zero, List.getElem?_cons_succ, List.set_cons_zero, List.set_cons_succ, and_true, true_and, and_self, or_true, true_or, or_false, false_or, Nat.reduceAdd, Nat.reduceSub, Nat.reduceLT, Nat.reduceLeDiff, Nat.reduceEqDiff, Nat.reduceBEq, beq_self_eq_true, Bool.or_false, Bool.false_or, Bool.or_true, Bool.true_or, not_true, not_false_eq_true, reduceCtorEq, s1557_0, s1557_1, s1557_2, s1557_5, s1557_8, s1557_9, s1557_11, s1557_12, s1557_15, s1557_18, s1557_19, md_n, mM, hM, hd1, cal (n1553 _ _) (hE0 _), cal (n1555 _ _ _) (hA _)]
        all_goals rfl
      rw [hbk, hRL]
      cases xb with
      | false =>
        rw [pSeq_f rfl]
        simp only [Bool.false_eq_true, if_false, bI_f, runR_nil, runR_app, q_Sk, q_Role, q_Put, q_Num, q_Nam, q_Step, q_Look, q_Roof, q_New, q_Rng, q_Pig, q_Full, q_Ord, q_M1, q_M2, q_OB, q_OR, q_OT, q_OE, q_Deep, q_Up, List.cons_append, List.nil_append]
      | true =>
        rw [pSeq_t rfl] at hsf ⊢
        have hsf' : sfR num R ((aSk :: aRole 5 :: aRoof :: aSk :: xt) ++ (pLines kd (401 - (0 + skN (aSk :: aRole 5 :: aRoof :: aSk :: xt))) (0 + skN (aSk :: aRole 5 :: aRoof :: aSk :: xt))).2) := hsf
        rw [sf_app] at hsf'
        have hsf2 := hsf'.2
        simp only [runR_nil, runR_app, q_Sk, q_Role, q_Put, q_Num, q_Nam, q_Step, q_Look, q_Roof, q_New, q_Rng, q_Pig, q_Full, q_Ord, q_M1, q_M2, q_OB, q_OR, q_OT, q_OE, q_Deep, q_Up, List.cons_append, List.nil_append] at hsf2 ⊢
        have eL : 0 + skN (aSk :: aRole 5 :: aRoof :: aSk :: xt) = 2 + skN xt := by
          show 0 + (1 + (0 + (0 + (1 + skN xt)))) = 2 + skN xt
          omega
        simp only [eL] at hsf2 ⊢
        have t3 : rTk (runR num (uSk (uRole 5 (uSk R))) xt) = 2 + skN xt := by rw [run_tk, t2]
        have d3 : rDp (runR num (uSk (uRole 5 (uSk R))) xt) = 0 := by rw [run_dp, hdX rfl]; exact hDp
        have o3 : rOr (runR num (uSk (uRole 5 (uSk R))) xt) = 0 := by rw [run_or, hoX]; exact hor
        have hLn := fun Q => r_linesL (Q := Q) (m0 := m0) (m1 := m1) (m2 := m2) (m3 := m3) (m11 := m11) (m13 := m13) (m14 := m14) (m15 := m15) (d := d) H hE hnum hd (401 - (2 + skN xt)) (runR num (uSk (uRole 5 (uSk R))) xt) (by rw [t3]; exact hBr) d3 (by rw [o3]; exact Nat.zero_le _) (by rw [t3]; exact Nat.le_refl _) (by rw [t3]; exact hsf2)
        rw [t3] at hLn
        simp only [if_true]
        exact hLn _
    · have hA := fun Q => m_eatAs0 (m0 := m0) (m1 := m1) (m2 := m2) (m3 := m3) (m11 := m11) (m13 := m13) (m14 := m14) (m15 := m15) (Q := Q) (k := 44) (as := 5) (x := nI 41) (d := d - 1) H hR1 (by omega) (by decide) rfl (by rw [t1]; exact h44)
      simp only [h44, if_false, pNo]
      rw [pSeq_f rfl]
      simp only [bI_f, runR_nil, runR_app, q_Sk, q_Role, q_Put, q_Num, q_Nam, q_Step, q_Look, q_Roof, q_New, q_Rng, q_Pig, q_Full, q_Ord, q_M1, q_M2, q_OB, q_OR, q_OT, q_OE, q_Deep, q_Up, List.cons_append, List.nil_append]
      simp only [WP_eq, e_go, e_none, e_ite, e_thr0, e_ret, e_thr, e_call, e_Kv, e_Kn, e_Kx, e_K2, e_K20, e_at0, e_s1_0, e_s2_0, e_at1, e_s1_1, e_s2_1, e_at2, e_s1_2, e_s2_2, e_at3, e_s1_3, e_s2_3, e_at4, e_s1_4, e_s2_4, e_at5, e_s1_5, e_s2_5, e_at6, e_s1_6, e_s2_6, e_at7, e_s1_7, e_s2_7, e_at8, e_s1_8, e_s2_8, e_at9, e_s1_9, e_s2_9, e_at10, e_s1_10, e_s2_10, e_at11, e_s1_11, e_s2_11, e_at12, e_s1_12, e_s2_12, e_at13, e_s1_13, e_s2_13, e_kn, e_ki, e_kj, e_kd, e_kr, e_k0, e_lI, e_lJ, e_lD, e_lA, e_lA0, e_sI, e_sJ, e_sD, e_sA, e_sA0, e_inc, e_I2, e_I2z, e_I1, e_I2J, e_J2I, e_I2D, e_J2, e_lcmp, e_dcmp, e_ddiv, e_ifeq, e_iceq, e_ifne, e_icne, e_iflt, e_iclt, e_ifge, e_icge, e_ifgt, e_icgt, e_ifle, e_icle, e_ca, e_ca2, e_en, e_en0, e_sw, e_lk0, e_lk, e_dup, e_dup2, e_pop, e_ci, e_cj, e_cd, e_cr, e_c0, e_gf, e_gf2, e_gf3, e_pf, e_pf2, e_f0, e_f1, e_f2, e_f20, e_len, e_len2, e_al, e_al2, e_al3, e_alJ, e_alJ2, e_alJ3, e_alA, e_alA2, e_alA3, e_as, e_as2, e_as3, e_asB, e_asB2, e_asJ, e_asJ2, e_asJ3, e_asA, e_asA2, e_asA3, e_new, e_na, e_na2, e_cat0, e_cat1, e_tk0, e_tk1, e_tk2, e_tk3, e_tk4, e_tk5, e_tk6, e_tk7, e_tk8, e_cS, e_cS2, e_cI_0, e_cI_1, e_cI_2, e_cI_3, e_cI_4, e_cI_5, e_cI2, e_cV_0, e_cV_1, e_cV_2, e_cV_3, e_cV_4, e_cV_5, e_cV_6, e_cV_7, e_cV2, e_cV3, e_oi, e_cp, e_r0, e_r1, e_r2, e_r3, e_r4, e_r5, e_r6, e_r60, e_r7, e_W1, e_W2, e_A1, e_A2, e_Wg, e_Ag, e_rf0, e_rf1, e_len0, e_len1, e_vl0, e_vl1, z00, z10, z11, ↓reduceIte, List.getElem?_cons_zero, List.getElem?_cons_succ, List.set_cons_zero, List.set_cons_succ, and_true, true_and, and_self, or_true, true_or, or_false, false_or, Nat.reduceAdd, Nat.reduceSub, Nat.reduceLT, Nat.reduceLeDiff, Nat.reduceEqDiff, Nat.reduceBEq, beq_self_eq_true, Bool.or_false, Bool.false_or, Bool.or_true, Bool.true_or, not_true, not_false_eq_true, reduceCtorEq, s1557_0, s1557_1, s1557_2, s1557_5, s1557_8, s1557_9, s1557_11, s1557_12, s1557_15, s1557_18, s1557_19, md_n, mM, hM, hd1, cal (n1553 _ _) (hE0 _), cal (n1555 _ _ _) (hA _)]
  · have hE0 := fun Q => m_eat0 (m0 := m0) (m1 := m1) (m2 := m2) (m3 := m3) (m11 := m11) (m13 := m13) (m14 := m14) (m15 := m15) (Q := Q) (k := 0) (x := nI 0) (d := d - 1) H hR hdm1 (by decide) rfl (by rw [h0]; exact hk0)
    rw [pTake_f hk0, pSeq_f (a := (false, [])) rfl, pSeq_f rfl]
    simp only [bI_f, runR_nil, runR_app, q_Sk, q_Role, q_Put, q_Num, q_Nam, q_Step, q_Look, q_Roof, q_New, q_Rng, q_Pig, q_Full, q_Ord, q_M1, q_M2, q_OB, q_OR, q_OT, q_OE, q_Deep, q_Up, List.cons_append, List.nil_append]
    simp only [WP_eq, e_go, e_none, e_ite, e_thr0, e_ret, e_thr, e_call, e_Kv, e_Kn, e_Kx, e_K2, e_K20, e_at0, e_s1_0, e_s2_0, e_at1, e_s1_1, e_s2_1, e_at2, e_s1_2, e_s2_2, e_at3, e_s1_3, e_s2_3, e_at4, e_s1_4, e_s2_4, e_at5, e_s1_5, e_s2_5, e_at6, e_s1_6, e_s2_6, e_at7, e_s1_7, e_s2_7, e_at8, e_s1_8, e_s2_8, e_at9, e_s1_9, e_s2_9, e_at10, e_s1_10, e_s2_10, e_at11, e_s1_11, e_s2_11, e_at12, e_s1_12, e_s2_12, e_at13, e_s1_13, e_s2_13, e_kn, e_ki, e_kj, e_kd, e_kr, e_k0, e_lI, e_lJ, e_lD, e_lA, e_lA0, e_sI, e_sJ, e_sD, e_sA, e_sA0, e_inc, e_I2, e_I2z, e_I1, e_I2J, e_J2I, e_I2D, e_J2, e_lcmp, e_dcmp, e_ddiv, e_ifeq, e_iceq, e_ifne, e_icne, e_iflt, e_iclt, e_ifge, e_icge, e_ifgt, e_icgt, e_ifle, e_icle, e_ca, e_ca2, e_en, e_en0, e_sw, e_lk0, e_lk, e_dup, e_dup2, e_pop, e_ci, e_cj, e_cd, e_cr, e_c0, e_gf, e_gf2, e_gf3, e_pf, e_pf2, e_f0, e_f1, e_f2, e_f20, e_len, e_len2, e_al, e_al2, e_al3, e_alJ, e_alJ2, e_alJ3, e_alA, e_alA2, e_alA3, e_as, e_as2, e_as3, e_asB, e_asB2, e_asJ, e_asJ2, e_asJ3, e_asA, e_asA2, e_asA3, e_new, e_na, e_na2, e_cat0, e_cat1, e_tk0, e_tk1, e_tk2, e_tk3, e_tk4, e_tk5, e_tk6, e_tk7, e_tk8, e_cS, e_cS2, e_cI_0, e_cI_1, e_cI_2, e_cI_3, e_cI_4, e_cI_5, e_cI2, e_cV_0, e_cV_1, e_cV_2, e_cV_3, e_cV_4, e_cV_5, e_cV_6, e_cV_7, e_cV2, e_cV3, e_oi, e_cp, e_r0, e_r1, e_r2, e_r3, e_r4, e_r5, e_r6, e_r60, e_r7, e_W1, e_W2, e_A1, e_A2, e_Wg, e_Ag, e_rf0, e_rf1, e_len0, e_len1, e_vl0, e_vl1, z00, z10, z11, ↓reduceIte, List.getElem?_cons_zero, List.getElem?_cons_succ, List.set_cons_zero, List.set_cons_succ, and_true, true_and, and_self, or_true, true_or, or_false, false_or, Nat.reduceAdd, Nat.reduceSub, Nat.reduceLT, Nat.reduceLeDiff, Nat.reduceEqDiff, Nat.reduceBEq, beq_self_eq_true, Bool.or_false, Bool.false_or, Bool.or_true, Bool.true_or, not_true, not_false_eq_true, reduceCtorEq, s1557_0, s1557_1, s1557_2, s1557_5, s1557_8, s1557_9, s1557_11, s1557_12, s1557_15, s1557_18, s1557_19, md_n, mM, hM, hd1, cal (n1553 _ _) (hE0 _)]
