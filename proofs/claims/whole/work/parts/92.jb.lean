/-! ===== the reference's read ===== -/
def tnR (R R' : MR) : Prop := rTw R' = rTw R ∧ rPg R' = rPg R ∧ rOd R' = rOd R
theorem tn_step (num : Nat → Int32) (a : PA) (R : MR) : tnR R (stepR num R a) := by
  obtain ⟨k, x, y, z⟩ := a
  unfold stepR
  dsimp only
  split <;> exact ⟨rfl, rfl, rfl⟩
theorem tn_run (num : Nat → Int32) : ∀ (t : List PA) (R : MR), tnR R (runR num R t)
  | [], R => ⟨rfl, rfl, rfl⟩
  | a :: t, R => by
    obtain ⟨h1, h2, h3⟩ := tn_run num t (stepR num R a)
    obtain ⟨k1, k2, k3⟩ := tn_step num a R
    exact ⟨h1.trans k1, h2.trans k2, h3.trans k3⟩
def oF (R : MR) (k : Nat) : Nat := (rOn R k).toNatClampNeg
def cF (R : MR) (k : Nat) : Nat := (rCo R (oF R k)).toNatClampNeg
/-- the trace, the numbers, the record after the first pass -/
def trB (b : Nat → Int32) (L : Nat) : List PA := (pBook (kdT b L)).2
def okB (b : Nat → Int32) (L : Nat) : Bool := (pBook (kdT b L)).1
def nmB (tb b : Nat → Int32) (L : Nat) : Nat → Int32 := nmO tb (frT b L) (liT b L)
def R1B (tb b : Nat → Int32) (L : Nat) (ro me : Nat → Int32) : MR := runR (nmB tb b L) (rsR ro me) (trB b L)
def zfB (b : Nat → Int32) (L : Nat) : Nat → Nat := zfT 0 0 (trB b L)
theorem trB_le (b : Nat → Int32) (L : Nat) : skN (trB b L) ≤ ntT b L := by
  have := pB_book (kd := kdT b L) (ntT_ok b L).1
  show skN (pBook (kdT b L)).2 ≤ ntT b L
  omega
def P2B (tb b : Nat → Int32) (L : Nat) (kf ro me : Nat → Int32) : Int32 × MR := erL tb (frT b L) (liT b L) kf (zfB b L) (skN (trB b L)) (uTk 0 (R1B tb b L ro me))
theorem jr_num {d i : Nat} {τ : mxS} {M tp L c L0 : Nat} {tb xs kf ff nf ro me : Nat → Int32} {m0 m3 : Value} {m9 m10 : Int32} {m11 : Value} {m12 : Nat} {m13 m14 m15 : Value} (H : rtC τ M tp L c L0 tb xs kf ff nf ro me m0 m3 m9 m10 m11 m12 m13 m14 m15) (R : MR) (hi : i ≤ ntT (bM tb L) L) (hk : kdT (bM tb L) L i = 44) {Q : Option Value ⊕ Nat → mxS → Prop} : WP d 1570 0 [some (.ref M), some (.int (nI i)), none, none] [] (mdW (rsS τ c (kfT (bM tb L) L (ntT (bM tb L) L + 1) kf) (saT (bM tb L) L (ntT (bM tb L) L + 1) ff) (nfT (bM tb L) L (ntT (bM tb L) L + 1) nf) (zeT (ntT (bM tb L) L + 1) ro) (zeT (ntT (bM tb L) L + 1) me)) m0 (.ref tp) (.int (nI L)) m3 m11 m13 m14 m15 M c (c + 1) (c + 2) (c + 3) (c + 4) (1000 + τ.2.1) R) Q = Q (.inl (some (.int (nmB tb (bM tb L) L i)))) (mdW (rsS τ c (kfT (bM tb L) L (ntT (bM tb L) L + 1) kf) (saT (bM tb L) L (ntT (bM tb L) L + 1) ff) (nfT (bM tb L) L (ntT (bM tb L) L + 1) nf) (zeT (ntT (bM tb L) L + 1) ro) (zeT (ntT (bM tb L) L + 1) me)) m0 (.ref tp) (.int (nI L)) m3 m11 m13 m14 m15 M c (c + 1) (c + 2) (c + 3) (c + 4) (1000 + τ.2.1) R) := by
  have hi' : i < ntT (bM tb L) L := by
    rcases Nat.lt_or_eq_of_le hi with q | q
    · exact q
    · subst q
      rcases (ntT_ok (bM tb L) L).1 with r | r <;> omega
  exact e_num (jr_C H) (jr_T H) (jr_F H.2.2.2.2.2.1 ff nf) hi'
theorem jr_book {d : Nat} {τ : mxS} {M tp L c L0 : Nat} {tb xs kf ff nf ro me : Nat → Int32} {m0 m3 : Value} {m9 m10 : Int32} {m11 : Value} {m12 : Nat} {m13 m14 m15 : Value} (H : rtC τ M tp L c L0 tb xs kf ff nf ro me m0 m3 m9 m10 m11 m12 m13 m14 m15) (hd : 79 ≤ d) {Q : Option Value ⊕ Nat → mxS → Prop} : WP d 1557 0 [some (.ref M)] [] (mdW (rsS τ c (kfT (bM tb L) L (ntT (bM tb L) L + 1) kf) (saT (bM tb L) L (ntT (bM tb L) L + 1) ff) (nfT (bM tb L) L (ntT (bM tb L) L + 1) nf) (zeT (ntT (bM tb L) L + 1) ro) (zeT (ntT (bM tb L) L + 1) me)) m0 (.ref tp) (.int (nI L)) m3 m11 m13 m14 m15 M c (c + 1) (c + 2) (c + 3) (c + 4) (1000 + τ.2.1) (rsR (zeT (ntT (bM tb L) L + 1) ro) (zeT (ntT (bM tb L) L + 1) me))) Q = Q (.inl (some (.int (bI (okB (bM tb L) L))))) (mdW (rsS τ c (kfT (bM tb L) L (ntT (bM tb L) L + 1) kf) (saT (bM tb L) L (ntT (bM tb L) L + 1) ff) (nfT (bM tb L) L (ntT (bM tb L) L + 1) nf) (zeT (ntT (bM tb L) L + 1) ro) (zeT (ntT (bM tb L) L + 1) me)) m0 (.ref tp) (.int (nI L)) m3 m11 m13 m14 m15 M c (c + 1) (c + 2) (c + 3) (c + 4) (1000 + τ.2.1) (R1B tb (bM tb L) L (zeT (ntT (bM tb L) L + 1) ro) (zeT (ntT (bM tb L) L + 1) me))) := by
  obtain ⟨n1', n2', n3'⟩ := ntT_ok (bM tb L) L
  have hsf := sf_of (nmB tb (bM tb L) L) n1' n2' (trB (bM tb L) L) 0 0 0 0 (rsR (zeT (ntT (bM tb L) L + 1) ro) (zeT (ntT (bM tb L) L + 1) me)) G_book (by have := trB_le (bM tb L) L; omega) rfl rfl rfl
  exact r_book (jr_C H) n1' (fun d' R h1 h2 Q => jr_num H R h1 h2) hd rfl rfl rfl hsf

theorem ofn {R : MR} {o c : Nat → Nat} (h : onI R o c) (hs : rSz R ≤ 800) (ht : rTk R ≤ 400) : (∀ k, k < rOp R → oF R k = o k ∧ cF R k = c k) := by
  intro k hk
  obtain ⟨h1, h2, h3, h4⟩ := h.1 k hk
  have e1 : oF R k = o k := by
    unfold oF
    rw [h1]
    exact nI_clamp (by omega)
  refine ⟨e1, ?_⟩
  unfold cF
  rw [e1, h3]
  exact nI_clamp (by omega)
theorem j_no {d : Nat} {τ : mxS} {M tp L c L0 : Nat} {tb xs kf ff nf ro me : Nat → Int32} {m0 m3 : Value} {m9 m10 : Int32} {m11 : Value} {m12 : Nat} {m13 m14 m15 : Value} (H : rtC τ M tp L c L0 tb xs kf ff nf ro me m0 m3 m9 m10 m11 m12 m13 m14 m15) (hd : 88 ≤ d) (hok : okB (bM tb L) L = false) {Q : Option Value ⊕ Nat → mxS → Prop} : WP d 1581 0 [some (.ref M), none, none] [] τ Q = Q (.inl (some (.int (nI 1)))) (mdW (rsS τ c (kfT (bM tb L) L (ntT (bM tb L) L + 1) kf) (saT (bM tb L) L (ntT (bM tb L) L + 1) ff) (nfT (bM tb L) L (ntT (bM tb L) L + 1) nf) (zeT (ntT (bM tb L) L + 1) ro) (zeT (ntT (bM tb L) L + 1) me)) m0 (.ref tp) (.int (nI L)) (.int ((saT (bM tb L) L (ntT (bM tb L) L + 1) ff) (rTk (R1B tb (bM tb L) L (zeT (ntT (bM tb L) L + 1) ro) (zeT (ntT (bM tb L) L + 1) me))))) m11 m13 m14 m15 M c (c + 1) (c + 2) (c + 3) (c + 4) (1000 + τ.2.1) (R1B tb (bM tb L) L (zeT (ntT (bM tb L) L + 1) ro) (zeT (ntT (bM tb L) L + 1) me))) := by
  have hd1 : 1 ≤ d := by omega
  have hC := jr_C H
  have hB' := fun (Q : Option Value ⊕ Nat → mxS → Prop) => jr_book (d := d - 1) (Q := Q) H (by omega)
  rw [hok] at hB'
  have eT : rTk (R1B tb (bM tb L) L (zeT (ntT (bM tb L) L + 1) ro) (zeT (ntT (bM tb L) L + 1) me)) = 0 + skN (trB (bM tb L) L) := run_tk _ _ _
  have h4 : rTk (R1B tb (bM tb L) L (zeT (ntT (bM tb L) L + 1) ro) (zeT (ntT (bM tb L) L + 1) me)) ≤ 400 := by
    rw [eT]
    have := trB_le (bM tb L) L
    have := (ntT_ok (bM tb L) L).2.1
    omega
  have e := e_no (d := d) (x1 := none) (x2 := none) (m0 := m0) (m2 := .int (nI L)) (m3 := m3) (m11 := m11) (m13 := m13) (m14 := m14) (m15 := m15) (Q := Q) hC (jr_T H) h4
  have gM := fun R => md_M (m0 := m0) (m1 := .ref tp) (m2 := .int (nI L)) (m3 := m3) (m11 := m11) (m13 := m13) (m14 := m14) (m15 := m15) hC R
  have uM := hC.1.1
  refine r_start H (by omega) rfl ?_
  simp only [WP_eq, e_go, e_none, e_ite, e_thr0, e_ret, e_thr, e_call, e_Kv, e_Kn, e_Kx, e_K2, e_K20, e_at0, e_s1_0, e_s2_0, e_at1, e_s1_1, e_s2_1, e_at2, e_s1_2, e_s2_2, e_at3, e_s1_3, e_s2_3, e_at4, e_s1_4, e_s2_4, e_at5, e_s1_5, e_s2_5, e_at6, e_s1_6, e_s2_6, e_at7, e_s1_7, e_s2_7, e_at8, e_s1_8, e_s2_8, e_at9, e_s1_9, e_s2_9, e_at10, e_s1_10, e_s2_10, e_at11, e_s1_11, e_s2_11, e_at12, e_s1_12, e_s2_12, e_at13, e_s1_13, e_s2_13, e_kn, e_ki, e_kj, e_kd, e_kr, e_k0, e_lI, e_lJ, e_lD, e_lA, e_lA0, e_sI, e_sJ, e_sD, e_sA, e_sA0, e_inc, e_I2, e_I2z, e_I1, e_I2J, e_J2I, e_I2D, e_J2, e_lcmp, e_dcmp, e_ddiv, e_ifeq, e_iceq, e_ifne, e_icne, e_iflt, e_iclt, e_ifge, e_icge, e_ifgt, e_icgt, e_ifle, e_icle, e_ca, e_ca2, e_en, e_en0, e_sw, e_lk0, e_lk, e_dup, e_dup2, e_pop, e_ci, e_cj, e_cd, e_cr, e_c0, e_gf, e_gf2, e_gf3, e_pf, e_pf2, e_f0, e_f1, e_f2, e_f20, e_len, e_len2, e_al, e_al2, e_al3, e_alJ, e_alJ2, e_alJ3, e_alA, e_alA2, e_alA3, e_as, e_as2, e_as3, e_asB, e_asB2, e_asJ, e_asJ2, e_asJ3, e_asA, e_asA2, e_asA3, e_new, e_na, e_na2, e_cat0, e_cat1, e_tk0, e_tk1, e_tk2, e_tk3, e_tk4, e_tk5, e_tk6, e_tk7, e_tk8, e_cS, e_cS2, e_cI_0, e_cI_1, e_cI_2, e_cI_3, e_cI_4, e_cI_5, e_cI2, e_cV_0, e_cV_1, e_cV_2, e_cV_3, e_cV_4, e_cV_5, e_cV_6, e_cV_7, e_cV2, e_cV3, e_oi, e_cp, e_r0, e_r1, e_r2, e_r3, e_r4, e_r5, e_r6, e_r60, e_r7, e_W1, e_W2, e_A1, e_A2, e_Wg, e_Ag, e_rf0, e_rf1, e_len0, e_len1, e_vl0, e_vl1, z00, z10, z11, ↓reduceIte, List.getElem?_cons_zero, List.getElem?_cons_succ, List.set_cons_zero, List.set_cons_succ, and_true, true_and, and_self, or_true, true_or, or_false, false_or, Nat.reduceAdd, Nat.reduceSub, Nat.reduceLT, Nat.reduceLeDiff, Nat.reduceEqDiff, Nat.reduceBEq, beq_self_eq_true, Bool.or_false, Bool.false_or, Bool.or_true, Bool.true_or, not_true, not_false_eq_true, reduceCtorEq, s1581_25, s1581_26, s1581_29, gM, uM, md_n, hd1, cal (n1557 _) (hB' _), bI_f]
  exact stk e
theorem j_ro {τ : mxS} {M tp L c L0 : Nat} {tb xs kf ff nf ro me : Nat → Int32} {m0 m3 : Value} {m9 m10 : Int32} {m11 : Value} {m12 : Nat} {m13 m14 m15 : Value} (H : rtC τ M tp L c L0 tb xs kf ff nf ro me m0 m3 m9 m10 m11 m12 m13 m14 m15) : ∀ p, p < skN (trB (bM tb L) L) → rRo (R1B tb (bM tb L) L (zeT (ntT (bM tb L) L + 1) ro) (zeT (ntT (bM tb L) L + 1) me)) p = nI (zfB (bM tb L) L p) := by
  intro p hp
  have h1 := trB_le (bM tb L) L
  refine (zfT_ro (nmB tb (bM tb L) L) (trB (bM tb L) L) 0 0 (rsR (zeT (ntT (bM tb L) L + 1) ro) (zeT (ntT (bM tb L) L + 1) me)) rfl (fun q _ h3 => ?_)).2 p (Nat.zero_le _) (by omega)
  show zeT (ntT (bM tb L) L + 1) ro q = _
  refine (upto_lt _ _ (by omega)).trans ?_
  split <;> rfl
theorem j_yes {d : Nat} {τ : mxS} {M tp L c L0 : Nat} {tb xs kf ff nf ro me : Nat → Int32} {m0 m3 : Value} {m9 m10 : Int32} {m11 : Value} {m12 : Nat} {m13 m14 m15 : Value} (H : rtC τ M tp L c L0 tb xs kf ff nf ro me m0 m3 m9 m10 m11 m12 m13 m14 m15) (hd : 88 ≤ d) (hok : okB (bM tb L) L = true) {Q : Option Value ⊕ Nat → mxS → Prop} {RR : Prop} (hgood : (P2B tb (bM tb L) L (kfT (bM tb L) L (ntT (bM tb L) L + 1) kf) (zeT (ntT (bM tb L) L + 1) ro) (zeT (ntT (bM tb L) L + 1) me)).1 = nI 0 → Q (.inl (some (.int (nI 0)))) (mdW (rsS τ c (kfT (bM tb L) L (ntT (bM tb L) L + 1) kf) (saT (bM tb L) L (ntT (bM tb L) L + 1) ff) (nfT (bM tb L) L (ntT (bM tb L) L + 1) nf) (zeT (ntT (bM tb L) L + 1) ro) (zeT (ntT (bM tb L) L + 1) me)) m0 (.ref tp) (.int (nI L)) m3 m11 m13 m14 m15 M c (c + 1) (c + 2) (c + 3) (c + 4) (1000 + τ.2.1) (opN (oF (P2B tb (bM tb L) L (kfT (bM tb L) L (ntT (bM tb L) L + 1) kf) (zeT (ntT (bM tb L) L + 1) ro) (zeT (ntT (bM tb L) L + 1) me)).2) (cF (P2B tb (bM tb L) L (kfT (bM tb L) L (ntT (bM tb L) L + 1) kf) (zeT (ntT (bM tb L) L + 1) ro) (zeT (ntT (bM tb L) L + 1) me)).2) (rOp (P2B tb (bM tb L) L (kfT (bM tb L) L (ntT (bM tb L) L + 1) kf) (zeT (ntT (bM tb L) L + 1) ro) (zeT (ntT (bM tb L) L + 1) me)).2) 0 (P2B tb (bM tb L) L (kfT (bM tb L) L (ntT (bM tb L) L + 1) kf) (zeT (ntT (bM tb L) L + 1) ro) (zeT (ntT (bM tb L) L + 1) me)).2)) = RR) (hbad : ¬ (P2B tb (bM tb L) L (kfT (bM tb L) L (ntT (bM tb L) L + 1) kf) (zeT (ntT (bM tb L) L + 1) ro) (zeT (ntT (bM tb L) L + 1) me)).1 = nI 0 → Q (.inl (some (.int (P2B tb (bM tb L) L (kfT (bM tb L) L (ntT (bM tb L) L + 1) kf) (zeT (ntT (bM tb L) L + 1) ro) (zeT (ntT (bM tb L) L + 1) me)).1))) (mdW (rsS τ c (kfT (bM tb L) L (ntT (bM tb L) L + 1) kf) (saT (bM tb L) L (ntT (bM tb L) L + 1) ff) (nfT (bM tb L) L (ntT (bM tb L) L + 1) nf) (zeT (ntT (bM tb L) L + 1) ro) (zeT (ntT (bM tb L) L + 1) me)) m0 (.ref tp) (.int (nI L)) (.int ((saT (bM tb L) L (ntT (bM tb L) L + 1) ff) (rTk (P2B tb (bM tb L) L (kfT (bM tb L) L (ntT (bM tb L) L + 1) kf) (zeT (ntT (bM tb L) L + 1) ro) (zeT (ntT (bM tb L) L + 1) me)).2))) m11 m13 m14 m15 M c (c + 1) (c + 2) (c + 3) (c + 4) (1000 + τ.2.1) (P2B tb (bM tb L) L (kfT (bM tb L) L (ntT (bM tb L) L + 1) kf) (zeT (ntT (bM tb L) L + 1) ro) (zeT (ntT (bM tb L) L + 1) me)).2) = RR) : WP d 1581 0 [some (.ref M), none, none] [] τ Q = RR := by
  have hd1 : 1 ≤ d := by omega
  have hC := jr_C H
  have hTT := jr_T H
  have hFF := jr_F (b := (bM tb L)) H.2.2.2.2.2.1 ff nf
  obtain ⟨n1', n2', n3'⟩ := ntT_ok (bM tb L) L
  have hle := trB_le (bM tb L) L
  have hB' := fun (Q : Option Value ⊕ Nat → mxS → Prop) => jr_book (d := d - 1) (Q := Q) H (by omega)
  rw [hok] at hB'
  have eT : rTk (R1B tb (bM tb L) L (zeT (ntT (bM tb L) L + 1) ro) (zeT (ntT (bM tb L) L + 1) me)) = skN (trB (bM tb L) L) := (run_tk _ _ _).trans (Nat.zero_add _)
  have hro := j_ro H
  obtain ⟨t1, t2, t3⟩ : tnR _ (R1B tb (bM tb L) L (zeT (ntT (bM tb L) L + 1) ro) (zeT (ntT (bM tb L) L + 1) me)) := tn_run (nmB tb (bM tb L) L) (trB (bM tb L) L) (rsR (zeT (ntT (bM tb L) L + 1) ro) (zeT (ntT (bM tb L) L + 1) me))
  obtain ⟨o, cc, hon⟩ := on_run (nmB tb (bM tb L) L) (trB (bM tb L) L) (rsR (zeT (ntT (bM tb L) L + 1) ro) (zeT (ntT (bM tb L) L + 1) me)) (fun _ => 0) (fun _ => 0) ⟨fun k hk => absurd (show k < 0 from hk) (by omega), fun j k _ hk => absurd (show k < 0 from hk) (by omega)⟩
  obtain ⟨z1, z2⟩ := sz_run (nmB tb (bM tb L) L) n1' n2' (trB (bM tb L) L) 0 0 0 0 (rsR (zeT (ntT (bM tb L) L + 1) ro) (zeT (ntT (bM tb L) L + 1) me)) G_book (by omega) rfl rfl rfl (by omega) (by omega)
  obtain ⟨qq, hev⟩ := E_book (kd := kdT (bM tb L) L) hok
  have hz := zfT_ok (trB (bM tb L) L) 0 0 0 qq 0 hev (by omega) (by omega) (by omega)
  obtain ⟨s1, s2, s3, s4, s5⟩ : sameCode (uTk 0 (R1B tb (bM tb L) L (zeT (ntT (bM tb L) L + 1) ro) (zeT (ntT (bM tb L) L + 1) me))) (P2B tb (bM tb L) L (kfT (bM tb L) L (ntT (bM tb L) L + 1) kf) (zeT (ntT (bM tb L) L + 1) ro) (zeT (ntT (bM tb L) L + 1) me)).2 := sc_erL _ _
  have gM := fun R => md_M (m0 := m0) (m1 := .ref tp) (m2 := .int (nI L)) (m3 := m3) (m11 := m11) (m13 := m13) (m14 := m14) (m15 := m15) hC R
  have uM := hC.1.1
  have e57 := e_loop (d := d) (E := skN (trB (bM tb L) L)) (m0 := m0) (m2 := .int (nI L)) (m3 := m3) (m11 := m11) (m13 := m13) (m14 := m14) (m15 := m15) (Q := Q) (RR := RR) hC hTT hFF (by omega) hle (by omega) (zf := zfB (bM tb L) L) (fun i hi => by
      obtain ⟨y1, y2, y3⟩ := hz i (Nat.zero_le _) (by omega)
      refine ⟨y1, fun z => by have := y2 z; omega, fun z => ?_⟩
      obtain ⟨v1, v2⟩ := y3 z
      by_cases q : i = 0
      · exact absurd (v1 q) (by decide)
      · exact ⟨by omega, v2 (by omega)⟩) (skN (trB (bM tb L) L)) (uTk 0 (R1B tb (bM tb L) L (zeT (ntT (bM tb L) L + 1) ro) (zeT (ntT (bM tb L) L + 1) me))) (Nat.zero_add _) hro ⟨by show rTw (R1B tb (bM tb L) L (zeT (ntT (bM tb L) L + 1) ro) (zeT (ntT (bM tb L) L + 1) me)) ≤ 16; rw [t1]; exact Nat.zero_le _, by show rPg (R1B tb (bM tb L) L (zeT (ntT (bM tb L) L + 1) ro) (zeT (ntT (bM tb L) L + 1) me)) ≤ 8; rw [t2]; exact Nat.zero_le _, by show rOd (R1B tb (bM tb L) L (zeT (ntT (bM tb L) L + 1) ro) (zeT (ntT (bM tb L) L + 1) me)) ≤ 16; rw [t3]; exact Nat.zero_le _⟩ (fun h => absurd (show 1 ≤ 0 from h) (by decide)) none (fun hg y => ?_) (fun hb _ m3' hm => ?_)
  · have e47 := e_yes (d := d) (x1 := none) (x2 := none) (m0 := m0) (m2 := .int (nI L)) (m3 := m3) (m11 := m11) (m13 := m13) (m14 := m14) (m15 := m15) (Q := Q) (R := R1B tb (bM tb L) L (zeT (ntT (bM tb L) L + 1) ro) (zeT (ntT (bM tb L) L + 1) me)) (RR := RR) hC hTT (by rw [eT]; exact e57)
    refine r_start H (by omega) rfl ?_
    simp only [WP_eq, e_go, e_none, e_ite, e_thr0, e_ret, e_thr, e_call, e_Kv, e_Kn, e_Kx, e_K2, e_K20, e_at0, e_s1_0, e_s2_0, e_at1, e_s1_1, e_s2_1, e_at2, e_s1_2, e_s2_2, e_at3, e_s1_3, e_s2_3, e_at4, e_s1_4, e_s2_4, e_at5, e_s1_5, e_s2_5, e_at6, e_s1_6, e_s2_6, e_at7, e_s1_7, e_s2_7, e_at8, e_s1_8, e_s2_8, e_at9, e_s1_9, e_s2_9, e_at10, e_s1_10, e_s2_10, e_at11, e_s1_11, e_s2_11, e_at12, e_s1_12, e_s2_12, e_at13, e_s1_13, e_s2_13, e_kn, e_ki, e_kj, e_kd, e_kr, e_k0, e_lI, e_lJ, e_lD, e_lA, e_lA0, e_sI, e_sJ, e_sD, e_sA, e_sA0, e_inc, e_I2, e_I2z, e_I1, e_I2J, e_J2I, e_I2D, e_J2, e_lcmp, e_dcmp, e_ddiv, e_ifeq, e_iceq, e_ifne, e_icne, e_iflt, e_iclt, e_ifge, e_icge, e_ifgt, e_icgt, e_ifle, e_icle, e_ca, e_ca2, e_en, e_en0, e_sw, e_lk0, e_lk, e_dup, e_dup2, e_pop, e_ci, e_cj, e_cd, e_cr, e_c0, e_gf, e_gf2, e_gf3, e_pf, e_pf2, e_f0, e_f1, e_f2, e_f20, e_len, e_len2, e_al, e_al2, e_al3, e_alJ, e_alJ2, e_alJ3, e_alA, e_alA2, e_alA3, e_as, e_as2, e_as3, e_asB, e_asB2, e_asJ, e_asJ2, e_asJ3, e_asA, e_asA2, e_asA3, e_new, e_na, e_na2, e_cat0, e_cat1, e_tk0, e_tk1, e_tk2, e_tk3, e_tk4, e_tk5, e_tk6, e_tk7, e_tk8, e_cS, e_cS2, e_cI_0, e_cI_1, e_cI_2, e_cI_3, e_cI_4, e_cI_5, e_cI2, e_cV_0, e_cV_1, e_cV_2, e_cV_3, e_cV_4, e_cV_5, e_cV_6, e_cV_7, e_cV2, e_cV3, e_oi, e_cp, e_r0, e_r1, e_r2, e_r3, e_r4, e_r5, e_r6, e_r60, e_r7, e_W1, e_W2, e_A1, e_A2, e_Wg, e_Ag, e_rf0, e_rf1, e_len0, e_len1, e_vl0, e_vl1, z00, z10, z11, ↓reduceIte, List.getElem?_cons_zero, List.getElem?_cons_succ, List.set_cons_zero, List.set_cons_succ, and_true, true_and, and_self, or_true, true_or, or_false, false_or, Nat.reduceAdd, Nat.reduceSub, Nat.reduceLT, Nat.reduceLeDiff, Nat.reduceEqDiff, Nat.reduceBEq, beq_self_eq_true, Bool.or_false, Bool.false_or, Bool.or_true, Bool.true_or, not_true, not_false_eq_true, reduceCtorEq, s1581_25, s1581_26, s1581_29, gM, uM, md_n, hd1, cal (n1557 _) (hB' _), bI_t, n1z]
    exact stk e47
  · have hop : rOp (P2B tb (bM tb L) L (kfT (bM tb L) L (ntT (bM tb L) L + 1) kf) (zeT (ntT (bM tb L) L + 1) ro) (zeT (ntT (bM tb L) L + 1) me)).2 = rOp (R1B tb (bM tb L) L (zeT (ntT (bM tb L) L + 1) ro) (zeT (ntT (bM tb L) L + 1) me)) := s2
    have hof : ∀ k, oF (P2B tb (bM tb L) L (kfT (bM tb L) L (ntT (bM tb L) L + 1) kf) (zeT (ntT (bM tb L) L + 1) ro) (zeT (ntT (bM tb L) L + 1) me)).2 k = oF (R1B tb (bM tb L) L (zeT (ntT (bM tb L) L + 1) ro) (zeT (ntT (bM tb L) L + 1) me)) k := fun k => by unfold oF; rw [s1]; rfl
    have hcf : ∀ k, cF (P2B tb (bM tb L) L (kfT (bM tb L) L (ntT (bM tb L) L + 1) kf) (zeT (ntT (bM tb L) L + 1) ro) (zeT (ntT (bM tb L) L + 1) me)).2 k = cF (R1B tb (bM tb L) L (zeT (ntT (bM tb L) L + 1) ro) (zeT (ntT (bM tb L) L + 1) me)) k := fun k => by unfold cF; rw [hof, s3]; rfl
    have hq := ofn hon z1 (by rw [show rTk (runR (nmB tb (bM tb L) L) (rsR (zeT (ntT (bM tb L) L + 1) ro) (zeT (ntT (bM tb L) L + 1) me)) (trB (bM tb L) L)) = _ from eT]; omega)
    have e111 := e_open (d := d) (y0 := nI (skN (trB (bM tb L) L))) (m0 := m0) (m2 := .int (nI L)) (m3 := m3) (m11 := m11) (m13 := m13) (m14 := m14) (m15 := m15) (Q := Q) hC hTT (o := oF (P2B tb (bM tb L) L (kfT (bM tb L) L (ntT (bM tb L) L + 1) kf) (zeT (ntT (bM tb L) L + 1) ro) (zeT (ntT (bM tb L) L + 1) me)).2) (c := cF (P2B tb (bM tb L) L (kfT (bM tb L) L (ntT (bM tb L) L + 1) kf) (zeT (ntT (bM tb L) L + 1) ro) (zeT (ntT (bM tb L) L + 1) me)).2) (E := rOp (P2B tb (bM tb L) L (kfT (bM tb L) L (ntT (bM tb L) L + 1) kf) (zeT (ntT (bM tb L) L + 1) ro) (zeT (ntT (bM tb L) L + 1) me)).2) (by rw [hop]; exact z2) (fun j k hj hk => by
        rw [hop] at hk
        rw [hof, hof]
        rw [show oF (R1B tb (bM tb L) L (zeT (ntT (bM tb L) L + 1) ro) (zeT (ntT (bM tb L) L + 1) me)) j = o j from (hq j (Nat.lt_trans hj hk)).1, show oF (R1B tb (bM tb L) L (zeT (ntT (bM tb L) L + 1) ro) (zeT (ntT (bM tb L) L + 1) me)) k = o k from (hq k hk).1]
        exact Nat.ne_of_lt (hon.2 j k hj hk)) (fun k hk => by
        rw [hop] at hk
        rw [hof, hcf, show oF (R1B tb (bM tb L) L (zeT (ntT (bM tb L) L + 1) ro) (zeT (ntT (bM tb L) L + 1) me)) k = o k from (hq k hk).1, show cF (R1B tb (bM tb L) L (zeT (ntT (bM tb L) L + 1) ro) (zeT (ntT (bM tb L) L + 1) me)) k = cc k from (hq k hk).2]
        obtain ⟨g1, g2, g3, g4⟩ := hon.1 k hk
        have eT' : rTk (runR (nmB tb (bM tb L) L) (rsR (zeT (ntT (bM tb L) L + 1) ro) (zeT (ntT (bM tb L) L + 1) me)) (trB (bM tb L) L)) = skN (trB (bM tb L) L) := eT
        exact ⟨by omega, by omega⟩) (rOp (P2B tb (bM tb L) L (kfT (bM tb L) L (ntT (bM tb L) L + 1) kf) (zeT (ntT (bM tb L) L + 1) ro) (zeT (ntT (bM tb L) L + 1) me)).2) 0 (P2B tb (bM tb L) L (kfT (bM tb L) L (ntT (bM tb L) L + 1) kf) (zeT (ntT (bM tb L) L + 1) ro) (zeT (ntT (bM tb L) L + 1) me)).2 (Nat.zero_add _) rfl (fun j hj => by
        rw [hop] at hj
        rw [hof, show oF (R1B tb (bM tb L) L (zeT (ntT (bM tb L) L + 1) ro) (zeT (ntT (bM tb L) L + 1) me)) j = o j from (hq j hj).1, s1]
        exact (hon.1 j hj).1) (fun j _ hj => by
        rw [hop] at hj
        rw [hof, hcf, show oF (R1B tb (bM tb L) L (zeT (ntT (bM tb L) L + 1) ro) (zeT (ntT (bM tb L) L + 1) me)) j = o j from (hq j hj).1, show cF (R1B tb (bM tb L) L (zeT (ntT (bM tb L) L + 1) ro) (zeT (ntT (bM tb L) L + 1) me)) j = cc j from (hq j hj).2, s3]
        exact (hon.1 j hj).2.2.1)
    have e111' := e111.trans (hgood hg)
    simp only [WP_eq, e_go, e_none, e_ite, e_thr0, e_ret, e_thr, e_call, e_Kv, e_Kn, e_Kx, e_K2, e_K20, e_at0, e_s1_0, e_s2_0, e_at1, e_s1_1, e_s2_1, e_at2, e_s1_2, e_s2_2, e_at3, e_s1_3, e_s2_3, e_at4, e_s1_4, e_s2_4, e_at5, e_s1_5, e_s2_5, e_at6, e_s1_6, e_s2_6, e_at7, e_s1_7, e_s2_7, e_at8, e_s1_8, e_s2_8, e_at9, e_s1_9, e_s2_9, e_at10, e_s1_10, e_s2_10, e_at11, e_s1_11, e_s2_11, e_at12, e_s1_12, e_s2_12, e_at13, e_s1_13, e_s2_13, e_kn, e_ki, e_kj, e_kd, e_kr, e_k0, e_lI, e_lJ, e_lD, e_lA, e_lA0, e_sI, e_sJ, e_sD, e_sA, e_sA0, e_inc, e_I2, e_I2z, e_I1, e_I2J, e_J2I, e_I2D, e_J2, e_lcmp, e_dcmp, e_ddiv, e_ifeq, e_iceq, e_ifne, e_icne, e_iflt, e_iclt, e_ifge, e_icge, e_ifgt, e_icgt, e_ifle, e_icle, e_ca, e_ca2, e_en, e_en0, e_sw, e_lk0, e_lk, e_dup, e_dup2, e_pop, e_ci, e_cj, e_cd, e_cr, e_c0, e_gf, e_gf2, e_gf3, e_pf, e_pf2, e_f0, e_f1, e_f2, e_f20, e_len, e_len2, e_al, e_al2, e_al3, e_alJ, e_alJ2, e_alJ3, e_alA, e_alA2, e_alA3, e_as, e_as2, e_as3, e_asB, e_asB2, e_asJ, e_asJ2, e_asJ3, e_asA, e_asA2, e_asA3, e_new, e_na, e_na2, e_cat0, e_cat1, e_tk0, e_tk1, e_tk2, e_tk3, e_tk4, e_tk5, e_tk6, e_tk7, e_tk8, e_cS, e_cS2, e_cI_0, e_cI_1, e_cI_2, e_cI_3, e_cI_4, e_cI_5, e_cI2, e_cV_0, e_cV_1, e_cV_2, e_cV_3, e_cV_4, e_cV_5, e_cV_6, e_cV_7, e_cV2, e_cV3, e_oi, e_cp, e_r0, e_r1, e_r2, e_r3, e_r4, e_r5, e_r6, e_r60, e_r7, e_W1, e_W2, e_A1, e_A2, e_Wg, e_Ag, e_rf0, e_rf1, e_len0, e_len1, e_vl0, e_vl1, z00, z10, z11, ↓reduceIte, List.getElem?_cons_zero, List.getElem?_cons_succ, List.set_cons_zero, List.set_cons_succ, and_true, true_and, and_self, or_true, true_or, or_false, false_or, Nat.reduceAdd, Nat.reduceSub, Nat.reduceLT, Nat.reduceLeDiff, Nat.reduceEqDiff, Nat.reduceBEq, beq_self_eq_true, Bool.or_false, Bool.false_or, Bool.or_true, Bool.true_or, not_true, not_false_eq_true, reduceCtorEq, s1581_109, s1581_110]
    exact stk e111'
  · subst hm
    exact hbad hb

