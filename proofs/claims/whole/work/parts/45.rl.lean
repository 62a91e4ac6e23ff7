/-! ===== the reference's orders and days ===== -/
/-- the steps as they stand in the reference's code -/
def rcode (cf : Nat → Int32) (K A B pos : Nat → Nat) (T : Nat) : Prop := ∀ i, i < T → cf (pos i) = nI (cdR (K i)) ∧ (2 ≤ lnR (K i) → cf (pos i + 1) = nI (A i)) ∧ (3 ≤ lnR (K i) → cf (pos i + 2) = nI (B i)) ∧ pos (i + 1) = pos i + lnR (K i)
theorem lnR_pos (k : Nat) : 1 ≤ lnR k := by
  unfold lnR
  split
  · decide
  · split <;> decide
theorem rc_mono {cf : Nat → Int32} {K A B pos : Nat → Nat} {T : Nat} (h : rcode cf K A B pos T) : ∀ m i, i + m ≤ T → pos i + m ≤ pos (i + m)
  | 0, i, _ => Nat.le_refl _
  | m + 1, i, hm => by
    have h1 := rc_mono h m i (by omega)
    have h2 := (h (i + m) (by omega)).2.2.2
    have h3 := lnR_pos (K (i + m))
    show pos i + (m + 1) ≤ pos (i + m + 1)
    omega
theorem w_rreckonL {d e T : Nat} {v2 : Option Value} {v : Int32} {K A B pos : Nat → Nat} {σ : mxS} {s M g n P gh ga gl gc w : Nat} {m0 m1 m2 m3 m4 m5 m6 m7 m8 m9 m10 m12 m14 m15 g5 g6 g7 g8 g9 g10 g11 g12 : Value} {gr : List Value} {hs ps ls cf : Nat → Int32} {dy dn : Int32} (hs1 : 1000 ≤ s) (hs2 : s + 3 ≤ 1000 + σ.2.1) (hMs : ¬ (s ≤ M ∧ M < s + 3)) (hgs : ¬ (s ≤ g ∧ g < s + 3)) (hMb : M < 1000 + σ.2.1) (hgb : g < 1000 + σ.2.1) (hM : σ.1 M = .inr (10, [m0, m1, m2, m3, m4, m5, m6, m7, m8, m9, m10, .ref g, m12, .ref w, m14, m15])) (hg : σ.1 g = .inr (8, .int (nI n) :: .int (nI P) :: .ref gh :: .ref ga :: .ref gl :: g5 :: g6 :: g7 :: g8 :: g9 :: g10 :: g11 :: g12 :: .ref gc :: gr)) (h0n : 0 < n) (hn : n ≤ 16) (hw1 : 1000 ≤ w) (hw2 : w < 1000 + σ.2.1) (hws : ¬ (s ≤ w ∧ w < s + 3)) (hc : σ.1 gc = .inl (0, 800, .inl cf)) (hcb : gc < 1000 + σ.2.1) (hcs : ¬ (s ≤ gc ∧ gc < s + 3)) (hne : M ≠ w ∧ g ≠ w ∧ gl ≠ w ∧ gc ≠ w) {pl : Nat → Nat} (hP : P ≤ 8) (hps : ∀ q, q < P → ps q = nI (pl q)) (hpl : ∀ q, q < P → pl q < n) (hl : σ.1 gl = .inl (0, 8, .inl ls)) (hlb : gl < 1000 + σ.2.1) (hlo : ¬ (s ≤ gl ∧ gl < s + 3)) (hd : 7 ≤ d) (hrc : rcode cf K A B pos T) (heT : e ≤ T) (hT4 : T ≤ 400) (hp8 : pos T ≤ 800) : ∀ m i l (ks : Nat → Int32) (v5 v6 v7 : Option Value), i + m = e → l.length ≤ i → evM hs n P pl ls dy K A B m i l [v] → stkR ks l → ∃ ks', ∀ {Q : Option Value ⊕ Nat → mxS → Prop}, WP d 1436 5 [some (.ref s), v2, some (.int (nI (pos e))), some (.int (nI l.length)), some (.int (nI (pos i))), v5, v6, v7] [] (stW (rkW σ w ks) s hs ps dy dn (.ref M)) Q = Q (.inl (some (.int v))) (stW (rkW σ w ks') s hs ps dy dn (.ref M)) := by
  have heP : pos e ≤ 800 := by
    have := rc_mono hrc (T - e) e (by omega)
    rw [show e + (T - e) = T by omega] at this
    omega
  intro m
  induction m with
  | zero =>
    intro i l ks v5 v6 v7 hi hll hev hst
    have hl1 : l = [v] := hev
    subst hl1
    have hx : ks 0 = v := hst.1
    obtain ⟨b0, b1, b2⟩ := st_b hs1 hs2
    obtain ⟨nM, ng, nl, nc⟩ := hne
    have hMo := (rs_o (w := w) (hs := hs) (ps := ps) (ks := ks) (dy := dy) (dn := dn) (M := M) hMs nM).trans hM
    have hko := rs_k (σ := σ) (hs := hs) (ps := ps) (ks := ks) (dy := dy) (dn := dn) (M := M) hws
    have h04 : mxidx (nI 0) 400 = some 0 := by decide
    refine ⟨ks, fun {Q} => ?_⟩
    conv => lhs; rw [WP_eq, s1436_5]
    simp only [WP_eq, e_go, e_none, e_ite, e_thr0, e_ret, e_thr, e_call, e_Kv, e_Kn, e_Kx, e_K2, e_K20, e_at0, e_s1_0, e_s2_0, e_at1, e_s1_1, e_s2_1, e_at2, e_s1_2, e_s2_2, e_at3, e_s1_3, e_s2_3, e_at4, e_s1_4, e_s2_4, e_at5, e_s1_5, e_s2_5, e_at6, e_s1_6, e_s2_6, e_at7, e_s1_7, e_s2_7, e_at8, e_s1_8, e_s2_8, e_at9, e_s1_9, e_s2_9, e_at10, e_s1_10, e_s2_10, e_at11, e_s1_11, e_s2_11, e_at12, e_s1_12, e_s2_12, e_at13, e_s1_13, e_s2_13, e_kn, e_ki, e_kj, e_kd, e_kr, e_k0, e_lI, e_lJ, e_lD, e_lA, e_lA0, e_sI, e_sJ, e_sD, e_sA, e_sA0, e_inc, e_I2, e_I2z, e_I1, e_I2J, e_J2I, e_I2D, e_J2, e_lcmp, e_dcmp, e_ddiv, e_ifeq, e_iceq, e_ifne, e_icne, e_iflt, e_iclt, e_ifge, e_icge, e_ifgt, e_icgt, e_ifle, e_icle, e_ca, e_ca2, e_en, e_en0, e_sw, e_lk0, e_lk, e_dup, e_dup2, e_pop, e_ci, e_cj, e_cd, e_cr, e_c0, e_gf, e_gf2, e_gf3, e_pf, e_pf2, e_f0, e_f1, e_f2, e_f20, e_len, e_len2, e_al, e_al2, e_al3, e_alJ, e_alJ2, e_alJ3, e_alA, e_alA2, e_alA3, e_as, e_as2, e_as3, e_asB, e_asB2, e_asJ, e_asJ2, e_asJ3, e_asA, e_asA2, e_asA3, e_new, e_na, e_na2, e_cat0, e_cat1, e_tk0, e_tk1, e_tk2, e_tk3, e_tk4, e_tk5, e_tk6, e_tk7, e_tk8, e_cS, e_cS2, e_cI_0, e_cI_1, e_cI_2, e_cI_3, e_cI_4, e_cI_5, e_cI2, e_cV_0, e_cV_1, e_cV_2, e_cV_3, e_cV_4, e_cV_5, e_cV_6, e_cV_7, e_cV2, e_cV3, e_oi, e_cp, e_r0, e_r1, e_r2, e_r3, e_r4, e_r5, e_r6, e_r60, e_r7, e_W1, e_W2, e_A1, e_A2, e_Wg, e_Ag, e_rf0, e_rf1, e_len0, e_len1, e_vl0, e_vl1, z00, z10, z11, ↓reduceIte, List.getElem?_cons_zero, List.getElem?_cons_succ, List.set_cons_zero, List.set_cons_succ, and_true, true_and, and_self, or_true, true_or, or_false, false_or, Nat.reduceAdd, Nat.reduceSub, Nat.reduceLT, Nat.reduceLeDiff, Nat.reduceEqDiff, Nat.reduceBEq, beq_self_eq_true, Bool.or_false, Bool.false_or, Bool.or_true, Bool.true_or, not_true, not_false_eq_true, reduceCtorEq, s1436_7, s1436_8, s1436_484, s1436_485, s1436_488, s1436_491, s1436_492, s1436_493, st_n, st_g0, st_g1, st_g2, st_w0, st_w1, st_w2, rk_n, show i = e by omega, Int32.le_refl, hMo, hko, hMb, hw2, b0, h04, hx]
  | succ m ih0 =>
    intro i l ks v5 v6 v7 hi hll hev hst
    obtain ⟨l1, ho, hev'⟩ := hev
    obtain ⟨c0, c1, c2, c3⟩ := hrc i (by omega)
    have hme := rc_mono hrc m (i + 1) (by omega)
    rw [show i + 1 + m = e by omega] at hme
    have hln := lnR_pos (K i)
    have hje : pos i < pos e := by omega
    have hj3 : pos i + lnR (K i) ≤ 800 := by omega
    rcases ho with ⟨hn', rfl⟩ | ⟨ho', x, r, rfl, rfl⟩ | ⟨ht', y, x, r, rfl, rfl⟩
    · have hz : l.length < 400 := by omega
      have hst' : stkR (va_up ks l.length (f0 hs n P pl ls dy (K i) (A i) (B i))) (f0 hs n P pl ls dy (K i) (A i) (B i) :: l) := ⟨va_up_self _ _ _, stkR_up l hst (Nat.le_refl _)⟩
      have IH := fun v5 v6 v7 => ih0 (i + 1) (f0 hs n P pl ls dy (K i) (A i) (B i) :: l) (va_up ks l.length (f0 hs n P pl ls dy (K i) (A i) (B i))) v5 v6 v7 (by omega) (Nat.succ_le_succ hll) hev' hst'
      rw [c3] at IH
      generalize hk0 : K i = k0 at *
      rcases hn' with (rfl | rfl | rfl | rfl | rfl) | ⟨rfl | rfl, ha⟩ | ⟨rfl | rfl, ha, hb⟩
      · obtain ⟨ks', ih⟩ := IH (some (.int (nI 32))) (some (.int (nI 0))) v7
        exact ⟨ks', fun {Q} => (w_rr44 (a := A i) (b := B i) (v2 := v2) (v5 := v5) (v6 := v6) (v7 := v7) (ks := ks) (hs := hs) (ps := ps) (dy := dy) (dn := dn) (Q := Q) (z := l.length) hs1 hs2 hMs hgs hMb hgb hM hg h0n hn hw1 hw2 hws hc hcb hcs hne hP hps hpl hl hlb hlo hd hje heP hj3 hz c0 (c1 (by decide))).trans ih⟩
      · obtain ⟨ks', ih⟩ := IH (some (.int (nI 11))) (some (.int (nI 0))) v7
        exact ⟨ks', fun {Q} => (w_rr11 (a := A i) (b := B i) (v2 := v2) (v5 := v5) (v6 := v6) (v7 := v7) (ks := ks) (hs := hs) (ps := ps) (dy := dy) (dn := dn) (Q := Q) (z := l.length) hs1 hs2 hMs hgs hMb hgb hM hg h0n hn hw1 hw2 hws hc hcb hcs hne hP hps hpl hl hlb hlo hd hje heP hj3 hz c0).trans ih⟩
      · obtain ⟨ks', ih⟩ := IH (some (.int (nI 12))) (some (.int (nI 0))) v7
        exact ⟨ks', fun {Q} => (w_rr12 (a := A i) (b := B i) (v2 := v2) (v5 := v5) (v6 := v6) (v7 := v7) (ks := ks) (hs := hs) (ps := ps) (dy := dy) (dn := dn) (Q := Q) (z := l.length) hs1 hs2 hMs hgs hMb hgb hM hg h0n hn hw1 hw2 hws hc hcb hcs hne hP hps hpl hl hlb hlo hd hje heP hj3 hz c0).trans ih⟩
      · obtain ⟨ks', ih⟩ := IH (some (.int (nI 13))) (some (.int (nI 0))) v7
        exact ⟨ks', fun {Q} => (w_rr13 (a := A i) (b := B i) (v2 := v2) (v5 := v5) (v6 := v6) (v7 := v7) (ks := ks) (hs := hs) (ps := ps) (dy := dy) (dn := dn) (Q := Q) (z := l.length) hs1 hs2 hMs hgs hMb hgb hM hg h0n hn hw1 hw2 hws hc hcb hcs hne hP hps hpl hl hlb hlo hd hje heP hj3 hz c0).trans ih⟩
      · obtain ⟨ks', ih⟩ := IH (some (.int (nI 14))) (some (.int (nI 0))) v7
        exact ⟨ks', fun {Q} => (w_rr14 (a := A i) (b := B i) (v2 := v2) (v5 := v5) (v6 := v6) (v7 := v7) (ks := ks) (hs := hs) (ps := ps) (dy := dy) (dn := dn) (Q := Q) (z := l.length) hs1 hs2 hMs hgs hMb hgb hM hg h0n hn hw1 hw2 hws hc hcb hcs hne hP hps hpl hl hlb hlo hd hje heP hj3 hz c0).trans ih⟩
      · obtain ⟨ks', ih⟩ := IH (some (.int (nI 16))) (some (.int (nI 1))) v7
        exact ⟨ks', fun {Q} => (w_rr16 (a := A i) (b := B i) (v2 := v2) (v5 := v5) (v6 := v6) (v7 := v7) (ks := ks) (hs := hs) (ps := ps) (dy := dy) (dn := dn) (Q := Q) (z := l.length) hs1 hs2 hMs hgs hMb hgb hM hg h0n hn hw1 hw2 hws hc hcb hcs hne hP hps hpl hl hlb hlo ha hd hje heP hj3 hz c0 (c1 (by decide))).trans ih⟩
      · obtain ⟨ks', ih⟩ := IH (some (.int (nI 17))) (some (.int (nI 1))) v7
        exact ⟨ks', fun {Q} => (w_rr17 (a := A i) (b := B i) (v2 := v2) (v5 := v5) (v6 := v6) (v7 := v7) (ks := ks) (hs := hs) (ps := ps) (dy := dy) (dn := dn) (Q := Q) (z := l.length) hs1 hs2 hMs hgs hMb hgb hM hg h0n hn hw1 hw2 hws hc hcb hcs hne hP hps hpl hl hlb hlo ha hd hje heP hj3 hz c0 (c1 (by decide))).trans ih⟩
      · obtain ⟨ks', ih⟩ := IH (some (.int (nI 19))) (some (.int (nI (A i)))) (some (.int (nI (B i))))
        exact ⟨ks', fun {Q} => (w_rr19 (a := A i) (b := B i) (v2 := v2) (v5 := v5) (v6 := v6) (v7 := v7) (ks := ks) (hs := hs) (ps := ps) (dy := dy) (dn := dn) (Q := Q) (z := l.length) hs1 hs2 hMs hgs hMb hgb hM hg h0n hn hw1 hw2 hws hc hcb hcs hne hP hps hpl hl hlb hlo ha hb hd hje heP hj3 hz c0 (c1 (by decide)) (c2 (by decide))).trans ih⟩
      · obtain ⟨ks', ih⟩ := IH (some (.int (nI 21))) (some (.int (nI (A i)))) (some (.int (nI (B i))))
        exact ⟨ks', fun {Q} => (w_rr21 (a := A i) (b := B i) (v2 := v2) (v5 := v5) (v6 := v6) (v7 := v7) (ks := ks) (hs := hs) (ps := ps) (dy := dy) (dn := dn) (Q := Q) (z := l.length) hs1 hs2 hMs hgs hMb hgb hM hg h0n hn hw1 hw2 hws hc hcb hcs hne hP hps hpl hl hlb hlo ha hb hd hje heP hj3 hz c0 (c1 (by decide)) (c2 (by decide))).trans ih⟩
    · have hl' : r.length + 1 ≤ i := hll
      have hst' : stkR (va_up ks r.length (f1 hs n (K i) x)) (f1 hs n (K i) x :: r) := ⟨va_up_self _ _ _, stkR_up r hst.2 (Nat.le_refl _)⟩
      have IH := fun v5 v6 v7 => ih0 (i + 1) (f1 hs n (K i) x :: r) (va_up ks r.length (f1 hs n (K i) x)) v5 v6 v7 (by omega) (Nat.succ_le_succ (by omega)) hev' hst'
      rw [c3] at IH
      have hs1' : ks r.length = x := hst.1
      generalize hk0 : K i = k0 at *
      rcases ho' with rfl | rfl | rfl | rfl
      · obtain ⟨ks', ih⟩ := IH (some (.int (nI 33))) v6 v7
        refine ⟨ks', fun {Q} => ?_⟩
        have hW := w_rr42 (v2 := v2) (v5 := v5) (v6 := v6) (v7 := v7) (ks := ks) (hs := hs) (ps := ps) (dy := dy) (dn := dn) (Q := Q) (z := r.length) hs1 hs2 hMs hgs hMb hgb hM hg h0n hn hw1 hw2 hws hc hcb hcs hne hP hps hpl hl hlb hlo hd hje heP (by omega) c0
        rw [hs1'] at hW
        exact hW.trans ih
      · obtain ⟨ks', ih⟩ := IH (some (.int (nI 22))) v6 v7
        refine ⟨ks', fun {Q} => ?_⟩
        have hW := w_rr22 (v2 := v2) (v5 := v5) (v6 := v6) (v7 := v7) (ks := ks) (hs := hs) (ps := ps) (dy := dy) (dn := dn) (Q := Q) (z := r.length) hs1 hs2 hMs hgs hMb hgb hM hg h0n hn hw1 hw2 hws hc hcb hcs hne hP hps hpl hl hlb hlo hd hje heP (by omega) c0
        rw [hs1'] at hW
        exact hW.trans ih
      · obtain ⟨ks', ih⟩ := IH (some (.int (nI 15))) v6 v7
        refine ⟨ks', fun {Q} => ?_⟩
        have hW := w_rr15 (v2 := v2) (v5 := v5) (v6 := v6) (v7 := v7) (ks := ks) (hs := hs) (ps := ps) (dy := dy) (dn := dn) (Q := Q) (z := r.length) hs1 hs2 hMs hgs hMb hgb hM hg h0n hn hw1 hw2 hws hc hcb hcs hne hP hps hpl hl hlb hlo hd hje heP (by omega) c0
        rw [hs1'] at hW
        exact hW.trans ih
      · obtain ⟨ks', ih⟩ := IH (some (.int (nI 20))) v6 v7
        refine ⟨ks', fun {Q} => ?_⟩
        have hW := w_rr20 (v2 := v2) (v5 := v5) (v6 := v6) (v7 := v7) (ks := ks) (hs := hs) (ps := ps) (dy := dy) (dn := dn) (Q := Q) (z := r.length) hs1 hs2 hMs hgs hMb hgb hM hg h0n hn hw1 hw2 hws hc hcb hcs hne hP hps hpl hl hlb hlo hd hje heP (by omega) c0
        rw [hs1'] at hW
        exact hW.trans ih
    · have hl' : r.length + 1 + 1 ≤ i := hll
      have hs2' : ks (r.length + 1) = y := hst.1
      have hs1' : ks r.length = x := hst.2.1
      have hst' : stkR (va_up ks r.length (f2 (K i) x y)) (f2 (K i) x y :: r) := ⟨va_up_self _ _ _, stkR_up r hst.2.2 (Nat.le_refl _)⟩
      have e1 : lnR (K i) = 1 := by
        rcases ht' with h | h | h | h | h | h | h | h | h | h | h | h | h <;> rw [h] <;> decide
      obtain ⟨ks', IH⟩ := ih0 (i + 1) (f2 (K i) x y :: r) (va_up ks r.length (f2 (K i) x y)) (some (.int (nI (cdR (K i))))) v6 v7 (by omega) (Nat.succ_le_succ (by omega)) hev' hst'
      rw [c3, e1] at IH
      refine ⟨ks', fun {Q} => ?_⟩
      have hW := w_rrtwo (v2 := v2) (v5 := v5) (v6 := v6) (v7 := v7) (ks := ks) (hs := hs) (ps := ps) (dy := dy) (dn := dn) (Q := Q) (z := r.length) (k := K i) hs1 hs2 hMs hgs hMb hgb hM hg h0n hn hw1 hw2 hws hc hcb hcs hne hP hps hpl hl hlb hlo ht' hd hje heP (by omega) c0
      rw [hs1', hs2'] at hW
      exact hW.trans IH
theorem w_rreckon {d f e T : Nat} {v : Int32} {ks : Nat → Int32} {K A B pos : Nat → Nat} {σ : mxS} {s M g n P gh ga gl gc w : Nat} {m0 m1 m2 m3 m4 m5 m6 m7 m8 m9 m10 m12 m14 m15 g5 g6 g7 g8 g9 g10 g11 g12 : Value} {gr : List Value} {hs ps ls cf : Nat → Int32} {dy dn : Int32} (hs1 : 1000 ≤ s) (hs2 : s + 3 ≤ 1000 + σ.2.1) (hMs : ¬ (s ≤ M ∧ M < s + 3)) (hgs : ¬ (s ≤ g ∧ g < s + 3)) (hMb : M < 1000 + σ.2.1) (hgb : g < 1000 + σ.2.1) (hM : σ.1 M = .inr (10, [m0, m1, m2, m3, m4, m5, m6, m7, m8, m9, m10, .ref g, m12, .ref w, m14, m15])) (hg : σ.1 g = .inr (8, .int (nI n) :: .int (nI P) :: .ref gh :: .ref ga :: .ref gl :: g5 :: g6 :: g7 :: g8 :: g9 :: g10 :: g11 :: g12 :: .ref gc :: gr)) (h0n : 0 < n) (hn : n ≤ 16) (hw1 : 1000 ≤ w) (hw2 : w < 1000 + σ.2.1) (hws : ¬ (s ≤ w ∧ w < s + 3)) (hc : σ.1 gc = .inl (0, 800, .inl cf)) (hcb : gc < 1000 + σ.2.1) (hcs : ¬ (s ≤ gc ∧ gc < s + 3)) (hne : M ≠ w ∧ g ≠ w ∧ gl ≠ w ∧ gc ≠ w) {pl : Nat → Nat} (hP : P ≤ 8) (hps : ∀ q, q < P → ps q = nI (pl q)) (hpl : ∀ q, q < P → pl q < n) (hl : σ.1 gl = .inl (0, 8, .inl ls)) (hlb : gl < 1000 + σ.2.1) (hlo : ¬ (s ≤ gl ∧ gl < s + 3)) (hd : 7 ≤ d) (hrc : rcode cf K A B pos T) (hfe : f ≤ e) (heT : e ≤ T) (hT4 : T ≤ 400) (hp8 : pos T ≤ 800) (hev : evM hs n P pl ls dy K A B (e - f) f [] [v]) : ∃ ks', ∀ {Q : Option Value ⊕ Nat → mxS → Prop}, WP d 1436 0 [some (.ref s), some (.int (nI (pos f))), some (.int (nI (pos e))), none, none, none, none, none] [] (stW (rkW σ w ks) s hs ps dy dn (.ref M)) Q = Q (.inl (some (.int v))) (stW (rkW σ w ks') s hs ps dy dn (.ref M)) := by
  obtain ⟨ks', h⟩ := w_rreckonL (v2 := some (.int (nI (pos f)))) (hs := hs) (ps := ps) (dy := dy) (dn := dn) hs1 hs2 hMs hgs hMb hgb hM hg h0n hn hw1 hw2 hws hc hcb hcs hne hP hps hpl hl hlb hlo hd hrc heT hT4 hp8 (e - f) f [] ks none none none (by omega) (Nat.zero_le _) hev trivial
  refine ⟨ks', fun {Q} => ?_⟩
  simp only [WP_eq, e_go, e_none, e_ite, e_thr0, e_ret, e_thr, e_call, e_Kv, e_Kn, e_Kx, e_K2, e_K20, e_at0, e_s1_0, e_s2_0, e_at1, e_s1_1, e_s2_1, e_at2, e_s1_2, e_s2_2, e_at3, e_s1_3, e_s2_3, e_at4, e_s1_4, e_s2_4, e_at5, e_s1_5, e_s2_5, e_at6, e_s1_6, e_s2_6, e_at7, e_s1_7, e_s2_7, e_at8, e_s1_8, e_s2_8, e_at9, e_s1_9, e_s2_9, e_at10, e_s1_10, e_s2_10, e_at11, e_s1_11, e_s2_11, e_at12, e_s1_12, e_s2_12, e_at13, e_s1_13, e_s2_13, e_kn, e_ki, e_kj, e_kd, e_kr, e_k0, e_lI, e_lJ, e_lD, e_lA, e_lA0, e_sI, e_sJ, e_sD, e_sA, e_sA0, e_inc, e_I2, e_I2z, e_I1, e_I2J, e_J2I, e_I2D, e_J2, e_lcmp, e_dcmp, e_ddiv, e_ifeq, e_iceq, e_ifne, e_icne, e_iflt, e_iclt, e_ifge, e_icge, e_ifgt, e_icgt, e_ifle, e_icle, e_ca, e_ca2, e_en, e_en0, e_sw, e_lk0, e_lk, e_dup, e_dup2, e_pop, e_ci, e_cj, e_cd, e_cr, e_c0, e_gf, e_gf2, e_gf3, e_pf, e_pf2, e_f0, e_f1, e_f2, e_f20, e_len, e_len2, e_al, e_al2, e_al3, e_alJ, e_alJ2, e_alJ3, e_alA, e_alA2, e_alA3, e_as, e_as2, e_as3, e_asB, e_asB2, e_asJ, e_asJ2, e_asJ3, e_asA, e_asA2, e_asA3, e_new, e_na, e_na2, e_cat0, e_cat1, e_tk0, e_tk1, e_tk2, e_tk3, e_tk4, e_tk5, e_tk6, e_tk7, e_tk8, e_cS, e_cS2, e_cI_0, e_cI_1, e_cI_2, e_cI_3, e_cI_4, e_cI_5, e_cI2, e_cV_0, e_cV_1, e_cV_2, e_cV_3, e_cV_4, e_cV_5, e_cV_6, e_cV_7, e_cV2, e_cV3, e_oi, e_cp, e_r0, e_r1, e_r2, e_r3, e_r4, e_r5, e_r6, e_r60, e_r7, e_W1, e_W2, e_A1, e_A2, e_Wg, e_Ag, e_rf0, e_rf1, e_len0, e_len1, e_vl0, e_vl1, z00, z10, z11, ↓reduceIte, List.getElem?_cons_zero, List.getElem?_cons_succ, List.set_cons_zero, List.set_cons_succ, and_true, true_and, and_self, or_true, true_or, or_false, false_or, Nat.reduceAdd, Nat.reduceSub, Nat.reduceLT, Nat.reduceLeDiff, Nat.reduceEqDiff, Nat.reduceBEq, beq_self_eq_true, Bool.or_false, Bool.false_or, Bool.or_true, Bool.true_or, not_true, not_false_eq_true, reduceCtorEq, s1436_0, s1436_1, s1436_2, s1436_3]
  exact stk h
