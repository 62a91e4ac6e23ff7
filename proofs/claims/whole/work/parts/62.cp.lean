/-! ===== the class's reader reads, once the tokens are known ===== -/
def cFail (R : RS) : RS := ((cAt R, cM1 R, cM2 R), (1, cAt R, cTc R, cPc R), (cOc R, cSc R, cHs R, cPs R), (cLs R, cOd R, cKf R), (cFa R, cSa R, cNs R))
/-- the record at the start: an old error's place, the old rows -/
def cBeg (t0 : Nat) (hs ps ls : Nat → Int32) (od : Nat → Nat × Int32 × Int32 × Int32 × Int32 × Int32) (kf : Nat → Option Nat) (fa sa : Nat → Int32) (ns : Nat → Int64) : RS := ((0, 0, 0), (0, t0, 0, 0), (0, 0, hs, ps), (ls, od, kf), (fa, sa, ns))
def cEnd (kd : Nat → Nat) (v : Nat → Int64) (R : RS) : RS := if (pBook kd).1 = true then runC v R (pBook kd).2 else cFail (runC v R (pBook kd).2)
def cEp (st : Nat → Int32) (R : RS) : Int32 := if cEr R = 0 then -1 else st (cEt R)
theorem et_note (e : Nat) (R : RS) : cEt (cNote e R) = cEt R ∨ cEt (cNote e R) = cAt R := by
  unfold cNote
  split
  · exact Or.inr rfl
  · exact Or.inl rfl
theorem et_dup (v : Nat → Int64) (x : Int64) (R : RS) : ∀ k, cEt (cDup v x k R) = cEt R ∨ cEt (cDup v x k R) = cAt R
  | 0 => Or.inl rfl
  | k + 1 => by
    rw [cDup]
    split
    · rcases et_note 2 (cDup v x k R) with h | h
      · rw [h]; exact et_dup v x R k
      · rw [h, d_At]; exact Or.inr rfl
    · exact et_dup v x R k
theorem et_rng (x lo hi : Int32) (R : RS) : cEt (cRng1 x lo hi R) = cEt R ∨ cEt (cRng1 x lo hi R) = cAt R := by
  unfold cRng1
  split
  · exact et_note 5 R
  · split
    · exact Or.inl rfl
    · exact et_note 5 R
theorem et_step (v : Nat → Int64) (a : PA) (R : RS) : cEt (stepC v R a) = cEt R ∨ cEt (stepC v R a) = cAt R := by
  obtain ⟨c, x, y, z⟩ := a
  unfold stepC
  dsimp only
  split
  · exact Or.inl rfl
  · unfold cStep cAddS
    split <;> exact Or.inl rfl
  · unfold cLook
    split
    · exact et_note 3 R
    · exact Or.inl rfl
  · have h : ∀ x R', cEt (cAddT x R') = cEt R' := fun x R' => by unfold cAddT; split <;> rfl
    unfold cRoof
    rw [h]
    split
    · exact et_note 4 R
    · split
      · exact Or.inl rfl
      · exact et_note 5 R
  · unfold cNew
    split
    · exact et_dup v _ R _
    · rcases et_note 4 (cDup v (v (cAt R)) (cPc R) R) with h | h
      · rw [h]; exact et_dup v _ R _
      · rw [h, d_At]; exact Or.inr rfl
  · unfold cRng
    split <;> exact et_rng ..
  · unfold cPig cAddP
    split <;> exact Or.inl rfl
  · unfold cFull
    split
    · exact et_note 4 R
    · exact Or.inl rfl
  · unfold cOrd cAddO
    split <;> exact Or.inl rfl
  · exact Or.inl rfl
  · exact Or.inl rfl
  · exact Or.inl rfl
theorem run_et {NT : Nat} (v : Nat → Int64) (hN : NT ≤ 400) : ∀ (t : List PA) (R : RS), cEt R ≤ 400 → cAt R + skN t ≤ NT → cEt (runC v R t) ≤ 400
  | [], R, h, _ => h
  | a :: t, R, h, hs => by
    rw [skN] at hs
    refine run_et v hN t (stepC v R a) ?_ ?_
    · rcases et_step v a R with z | z <;> omega
    · rw [at_step]; omega
theorem pB_book {NT : Nat} {kd : Nat → Nat} (hE : kd NT = 45 ∨ kd NT = 46) : 0 + skN (pBook kd).2 ≤ NT := sk_seq (pB_roofs hE 0 (Nat.zero_le _)) (fun j hj => pB_lines hE _ j hj)
theorem c_read {d t0 : Nat} {ns : Nat → Int64} {a0 e0 : Int32} {h0 tc0 pc0 oc0 sc0 : Nat} {hs ps ls : Nat → Int32} {od : Nat → Nat × Int32 × Int32 × Int32 × Int32 × Int32} {kf : Nat → Option Nat} {fa sa : Nat → Int32} {σ : mxS} {r nm pb tk NT tp tkk tks tkv : Nat} {ep : Int32} {oaf : Nat → Option Nat} {kd : Nat → Nat} {v : Nat → Int64} {kk : Nat → Option Nat} {st : Nat → Int32} (H : rdC σ r nm pb tk oaf kd v NT tp tkk tks tkv kk st) (hE : kd NT = 45 ∨ kd NT = 46) {L : Nat} {xs : Nat → Int32} (hK : ∀ a, a < 1000 → σ.1 a = mxkon L xs a) (hd : 79 ≤ d) (ht0 : t0 ≤ 400) {Q : Option Value ⊕ Nat → mxS → Prop} : WP d 769 7 [some (.ref r)] [] (pnW (rnW σ r nm ns [.ref tk, .ref nm, .ref pb, .int a0, .ref h0, .int e0, .int (nI t0), .int ep]) pb hs ps ls oaf od kf fa sa (nI tc0) (nI pc0) (nI oc0) (nI sc0)) Q = Q (.inl (some (.int (nI (cEr (cEnd kd v (cBeg t0 hs ps ls od kf fa sa ns))))))) (rdW σ r nm pb tk (cEp st (cEnd kd v (cBeg t0 hs ps ls od kf fa sa ns))) oaf kd (cEnd kd v (cBeg t0 hs ps ls od kf fa sa ns))) := by
  obtain ⟨⟨hr, hnm, hne, hpr, hpn, hp1, hp2⟩, ⟨htk, htkk, htks, htkv⟩, ⟨⟨u1, u2, u3, u4⟩, ⟨o1, o2, o3⟩, ⟨o4, o5, o6⟩, ⟨o7, o8, o9⟩, o10, o11, o12⟩, hkk, hN4, hoa⟩ := id H
  have hpb : 1000 ≤ pb ∧ pb < 1000 + σ.2.1 := ⟨hp1, by omega⟩
  have hd1 : 1 ≤ d := by omega
  have hd78 : 78 ≤ d - 1 := by omega
  have hd2 : 2 ≤ d - 1 := by omega
  have g_r := fun (ns : Nat → Int64) (fs : List Value) (hs ps ls : Nat → Int32) (oaf : Nat → Option Nat) (od : Nat → Nat × Int32 × Int32 × Int32 × Int32 × Int32) (kf : Nat → Option Nat) (fa sa : Nat → Int32) (tc pc oc sc : Int32) => (pn_o (rnW σ r nm ns fs) pb hs ps ls oaf od kf fa sa tc pc oc sc hpr).trans (rn_g σ r nm ns fs); have g_n := fun (ns : Nat → Int64) (fs : List Value) (hs ps ls : Nat → Int32) (oaf : Nat → Option Nat) (od : Nat → Nat × Int32 × Int32 × Int32 × Int32 × Int32) (kf : Nat → Option Nat) (fa sa : Nat → Int32) (tc pc oc sc : Int32) => (pn_o (rnW σ r nm ns fs) pb hs ps ls oaf od kf fa sa tc pc oc sc hpn).trans (rn_gn σ ns fs hne); have g_t := fun (ns : Nat → Int64) (fs : List Value) (hs ps ls : Nat → Int32) (oaf : Nat → Option Nat) (od : Nat → Nat × Int32 × Int32 × Int32 × Int32 × Int32) (kf : Nat → Option Nat) (fa sa : Nat → Int32) (tc pc oc sc : Int32) => ((pn_o (rnW σ r nm ns fs) pb hs ps ls oaf od kf fa sa tc pc oc sc o3).trans (rn_o σ ns fs o1 o2)).trans htk; have g_k := fun (ns : Nat → Int64) (fs : List Value) (hs ps ls : Nat → Int32) (oaf : Nat → Option Nat) (od : Nat → Nat × Int32 × Int32 × Int32 × Int32 × Int32) (kf : Nat → Option Nat) (fa sa : Nat → Int32) (tc pc oc sc : Int32) => ((pn_o (rnW σ r nm ns fs) pb hs ps ls oaf od kf fa sa tc pc oc sc o6).trans (rn_o σ ns fs o4 o5)).trans htkk; have g_s := fun (ns : Nat → Int64) (fs : List Value) (hs ps ls : Nat → Int32) (oaf : Nat → Option Nat) (od : Nat → Nat × Int32 × Int32 × Int32 × Int32 × Int32) (kf : Nat → Option Nat) (fa sa : Nat → Int32) (tc pc oc sc : Int32) => ((pn_o (rnW σ r nm ns fs) pb hs ps ls oaf od kf fa sa tc pc oc sc o9).trans (rn_o σ ns fs o7 o8)).trans htks; have g_v := fun (ns : Nat → Int64) (fs : List Value) (hs ps ls : Nat → Int32) (oaf : Nat → Option Nat) (od : Nat → Nat × Int32 × Int32 × Int32 × Int32 × Int32) (kf : Nat → Option Nat) (fa sa : Nat → Int32) (tc pc oc sc : Int32) => ((pn_o (rnW σ r nm ns fs) pb hs ps ls oaf od kf fa sa tc pc oc sc o12).trans (rn_o σ ns fs o10 o11)).trans htkv; have w_r := fun (ns : Nat → Int64) (fs fs' : List Value) (hs ps ls : Nat → Int32) (oaf : Nat → Option Nat) (od : Nat → Nat × Int32 × Int32 × Int32 × Int32 × Int32) (kf : Nat → Option Nat) (fa sa : Nat → Int32) (tc pc oc sc : Int32) => (pn_wo (rnW σ r nm ns fs) pb hs ps ls oaf od kf fa sa tc pc oc sc (.inr (4, fs')) hpr).trans (congrArg (fun z => pnW z pb hs ps ls oaf od kf fa sa tc pc oc sc) (rn_w σ r nm ns fs fs')); have w_n := fun (ns ns' : Nat → Int64) (fs : List Value) (hs ps ls : Nat → Int32) (oaf : Nat → Option Nat) (od : Nat → Nat × Int32 × Int32 × Int32 × Int32 × Int32) (kf : Nat → Option Nat) (fa sa : Nat → Int32) (tc pc oc sc : Int32) => (pn_wo (rnW σ r nm ns fs) pb hs ps ls oaf od kf fa sa tc pc oc sc (.inl (1, 8, .inr (.inl ns'))) hpn).trans (congrArg (fun z => pnW z pb hs ps ls oaf od kf fa sa tc pc oc sc) (rn_wn σ ns ns' fs hne))
  have hR1 : cI NT (cBeg t0 hs ps ls od kf fa sa ns) := ⟨Nat.zero_le _, Nat.zero_le _, Nat.zero_le _, Nat.zero_le _, Nat.zero_le _, Nat.zero_le _⟩
  obtain ⟨hk1, hk2⟩ := hkk 0 (Nat.zero_le _)
  have h00 : mxidx (nI 0) 401 = some 0 := by decide
  have hrr := fun ep R => rd_r (ep := ep) H R
  have rv1 := fun ep R => (rd_v (ep := ep) H R).1
  have rv3 := fun ep R => (rd_v (ep := ep) H R).2.2.1
  -- up to the roofs
  have head : ∀ Q, WP d 769 7 [some (.ref r)] [] (pnW (rnW σ r nm ns [.ref tk, .ref nm, .ref pb, .int a0, .ref h0, .int e0, .int (nI t0), .int ep]) pb hs ps ls oaf od kf fa sa (nI tc0) (nI pc0) (nI oc0) (nI sc0)) Q = WP d 769 37 [some (.ref r)] [] (rdW σ r nm pb tk ep oaf kd (cBeg t0 hs ps ls od kf fa sa ns)) Q := by
    intro Q
    have hCl := fun Q => w_clear (Q := Q) (d := d - 1) (σ := rnW σ r nm ns [.ref tk, .ref nm, .ref pb, .int a0, .ref h0, .int e0, .int (nI t0), .int ep]) (p := pb) (hs := hs) (ps := ps) (ls := ls) (oaf := oaf) (od := od) (kf := kf) (fa := fa) (sa := sa) (tc := tc0) (pc := pc0) (oc := oc0) (sc := sc0) hp1 hp2
    show _ = WP d 769 37 [some (.ref r)] [] (pnW (rnW σ r nm ns [.ref tk, .ref nm, .ref pb, .int (nI 0), .ref (kd 0), .int (nI 0), .int (nI t0), .int ep]) pb hs ps ls oaf od kf fa sa (nI 0) (nI 0) (nI 0) (nI 0)) Q
    simp only [WP_eq, e_go, e_none, e_ite, e_thr0, e_ret, e_thr, e_call, e_Kv, e_Kn, e_Kx, e_K2, e_K20, e_at0, e_s1_0, e_s2_0, e_at1, e_s1_1, e_s2_1, e_at2, e_s1_2, e_s2_2, e_at3, e_s1_3, e_s2_3, e_at4, e_s1_4, e_s2_4, e_at5, e_s1_5, e_s2_5, e_at6, e_s1_6, e_s2_6, e_at7, e_s1_7, e_s2_7, e_at8, e_s1_8, e_s2_8, e_at9, e_s1_9, e_s2_9, e_at10, e_s1_10, e_s2_10, e_at11, e_s1_11, e_s2_11, e_at12, e_s1_12, e_s2_12, e_at13, e_s1_13, e_s2_13, e_kn, e_ki, e_kj, e_kd, e_kr, e_k0, e_lI, e_lJ, e_lD, e_lA, e_lA0, e_sI, e_sJ, e_sD, e_sA, e_sA0, e_inc, e_I2, e_I2z, e_I1, e_I2J, e_J2I, e_I2D, e_J2, e_lcmp, e_dcmp, e_ddiv, e_ifeq, e_iceq, e_ifne, e_icne, e_iflt, e_iclt, e_ifge, e_icge, e_ifgt, e_icgt, e_ifle, e_icle, e_ca, e_ca2, e_en, e_en0, e_sw, e_lk0, e_lk, e_dup, e_dup2, e_pop, e_ci, e_cj, e_cd, e_cr, e_c0, e_gf, e_gf2, e_gf3, e_pf, e_pf2, e_f0, e_f1, e_f2, e_f20, e_len, e_len2, e_al, e_al2, e_al3, e_alJ, e_alJ2, e_alJ3, e_alA, e_alA2, e_alA3, e_as, e_as2, e_as3, e_asB, e_asB2, e_asJ, e_asJ2, e_asJ3, e_asA, e_asA2, e_asA3, e_new, e_na, e_na2, e_cat0, e_cat1, e_tk0, e_tk1, e_tk2, e_tk3, e_tk4, e_tk5, e_tk6, e_tk7, e_tk8, e_cS, e_cS2, e_cI_0, e_cI_1, e_cI_2, e_cI_3, e_cI_4, e_cI_5, e_cI2, e_cV_0, e_cV_1, e_cV_2, e_cV_3, e_cV_4, e_cV_5, e_cV_6, e_cV_7, e_cV2, e_cV3, e_oi, e_cp, e_r0, e_r1, e_r2, e_r3, e_r4, e_r5, e_r6, e_r60, e_r7, e_W1, e_W2, e_A1, e_A2, e_Wg, e_Ag, e_rf0, e_rf1, e_len0, e_len1, e_vl0, e_vl1, z00, z10, z11, ↓reduceIte, List.getElem?_cons_zero, List.getElem?_cons_succ, List.set_cons_zero, List.set_cons_succ, and_true, true_and, and_self, or_true, true_or, or_false, false_or, Nat.reduceAdd, Nat.reduceSub, Nat.reduceLT, Nat.reduceLeDiff, Nat.reduceEqDiff, Nat.reduceBEq, beq_self_eq_true, Bool.or_false, Bool.false_or, Bool.or_true, Bool.true_or, not_true, not_false_eq_true, reduceCtorEq, s769_7, s769_8, s769_11, s769_14, s769_15, s769_16, s769_19, s769_20, s769_21, s769_24, s769_27, s769_28, s769_29, s769_32, s769_33, s769_34, pn_n, rn_n, g_r, g_n, g_t, g_k, g_s, g_v, w_r, w_n, pn_g0, u1, u2, u3, u4, hr, hnm, hpb, hd1, cal (n513 _) (hCl _), hk1, va_rf, h00]
  -- the end
  have tail : ∀ (R : RS) Q, cI NT R → cEt R ≤ 400 → WP d 769 64 [some (.ref r)] [] (rdW σ r nm pb tk ep oaf kd R) Q = Q (.inl (some (.int (nI (cEr R))))) (rdW σ r nm pb tk (cEp st R) oaf kd R) := by
    intro R Q hR het
    have hE5 := hR.2.2.2.2.2
    have het4 : mxidx (nI (cEt R)) 401 = some (cEt R) := mxidx_nI (by omega) (by decide)
    unfold cEp
    by_cases h : cEr R = 0
    · have h0 : nI (cEr R) = 0 := by rw [h]; rfl
      rw [if_pos h]
      show WP d 769 64 [some (.ref r)] [] (pnW (rnW σ r nm (cNs R) [.ref tk, .ref nm, .ref pb, .int (nI (cAt R)), .ref (kd (cAt R)), .int (nI (cEr R)), .int (nI (cEt R)), .int ep]) pb (cHs R) (cPs R) (cLs R) oaf (cOd R) (cKf R) (cFa R) (cSa R) (nI (cTc R)) (nI (cPc R)) (nI (cOc R)) (nI (cSc R))) Q = Q _ (pnW (rnW σ r nm (cNs R) [.ref tk, .ref nm, .ref pb, .int (nI (cAt R)), .ref (kd (cAt R)), .int (nI (cEr R)), .int (nI (cEt R)), .int (-1)]) pb (cHs R) (cPs R) (cLs R) oaf (cOd R) (cKf R) (cFa R) (cSa R) (nI (cTc R)) (nI (cPc R)) (nI (cOc R)) (nI (cSc R)))
      simp only [WP_eq, e_go, e_none, e_ite, e_thr0, e_ret, e_thr, e_call, e_Kv, e_Kn, e_Kx, e_K2, e_K20, e_at0, e_s1_0, e_s2_0, e_at1, e_s1_1, e_s2_1, e_at2, e_s1_2, e_s2_2, e_at3, e_s1_3, e_s2_3, e_at4, e_s1_4, e_s2_4, e_at5, e_s1_5, e_s2_5, e_at6, e_s1_6, e_s2_6, e_at7, e_s1_7, e_s2_7, e_at8, e_s1_8, e_s2_8, e_at9, e_s1_9, e_s2_9, e_at10, e_s1_10, e_s2_10, e_at11, e_s1_11, e_s2_11, e_at12, e_s1_12, e_s2_12, e_at13, e_s1_13, e_s2_13, e_kn, e_ki, e_kj, e_kd, e_kr, e_k0, e_lI, e_lJ, e_lD, e_lA, e_lA0, e_sI, e_sJ, e_sD, e_sA, e_sA0, e_inc, e_I2, e_I2z, e_I1, e_I2J, e_J2I, e_I2D, e_J2, e_lcmp, e_dcmp, e_ddiv, e_ifeq, e_iceq, e_ifne, e_icne, e_iflt, e_iclt, e_ifge, e_icge, e_ifgt, e_icgt, e_ifle, e_icle, e_ca, e_ca2, e_en, e_en0, e_sw, e_lk0, e_lk, e_dup, e_dup2, e_pop, e_ci, e_cj, e_cd, e_cr, e_c0, e_gf, e_gf2, e_gf3, e_pf, e_pf2, e_f0, e_f1, e_f2, e_f20, e_len, e_len2, e_al, e_al2, e_al3, e_alJ, e_alJ2, e_alJ3, e_alA, e_alA2, e_alA3, e_as, e_as2, e_as3, e_asB, e_asB2, e_asJ, e_asJ2, e_asJ3, e_asA, e_asA2, e_asA3, e_new, e_na, e_na2, e_cat0, e_cat1, e_tk0, e_tk1, e_tk2, e_tk3, e_tk4, e_tk5, e_tk6, e_tk7, e_tk8, e_cS, e_cS2, e_cI_0, e_cI_1, e_cI_2, e_cI_3, e_cI_4, e_cI_5, e_cI2, e_cV_0, e_cV_1, e_cV_2, e_cV_3, e_cV_4, e_cV_5, e_cV_6, e_cV_7, e_cV2, e_cV3, e_oi, e_cp, e_r0, e_r1, e_r2, e_r3, e_r4, e_r5, e_r6, e_r60, e_r7, e_W1, e_W2, e_A1, e_A2, e_Wg, e_Ag, e_rf0, e_rf1, e_len0, e_len1, e_vl0, e_vl1, z00, z10, z11, ↓reduceIte, List.getElem?_cons_zero, List.getElem?_cons_succ, List.set_cons_zero, List.set_cons_succ, and_true, true_and, and_self, or_true, true_or, or_false, false_or, Nat.reduceAdd, Nat.reduceSub, Nat.reduceLT, Nat.reduceLeDiff, Nat.reduceEqDiff, Nat.reduceBEq, beq_self_eq_true, Bool.or_false, Bool.false_or, Bool.or_true, Bool.true_or, not_true, not_false_eq_true, reduceCtorEq, s769_64, s769_65, s769_66, s769_69, s769_72, s769_73, s769_76, s769_77, s769_80, s769_83, s769_84, s769_87, s769_88, s769_91, s769_92, s769_95, pn_n, rn_n, g_r, g_n, g_t, g_k, g_s, g_v, w_r, w_n, pn_g0, u1, u2, u3, u4, hr, hnm, hpb, h0]
    · have h0 : ¬ nI (cEr R) = 0 := fun z => h ((nI_eq (a := cEr R) (b := 0) (by omega) (by omega)).mp z)
      rw [if_neg h]
      show WP d 769 64 [some (.ref r)] [] (pnW (rnW σ r nm (cNs R) [.ref tk, .ref nm, .ref pb, .int (nI (cAt R)), .ref (kd (cAt R)), .int (nI (cEr R)), .int (nI (cEt R)), .int ep]) pb (cHs R) (cPs R) (cLs R) oaf (cOd R) (cKf R) (cFa R) (cSa R) (nI (cTc R)) (nI (cPc R)) (nI (cOc R)) (nI (cSc R))) Q = Q _ (pnW (rnW σ r nm (cNs R) [.ref tk, .ref nm, .ref pb, .int (nI (cAt R)), .ref (kd (cAt R)), .int (nI (cEr R)), .int (nI (cEt R)), .int (st (cEt R))]) pb (cHs R) (cPs R) (cLs R) oaf (cOd R) (cKf R) (cFa R) (cSa R) (nI (cTc R)) (nI (cPc R)) (nI (cOc R)) (nI (cSc R)))
      simp only [WP_eq, e_go, e_none, e_ite, e_thr0, e_ret, e_thr, e_call, e_Kv, e_Kn, e_Kx, e_K2, e_K20, e_at0, e_s1_0, e_s2_0, e_at1, e_s1_1, e_s2_1, e_at2, e_s1_2, e_s2_2, e_at3, e_s1_3, e_s2_3, e_at4, e_s1_4, e_s2_4, e_at5, e_s1_5, e_s2_5, e_at6, e_s1_6, e_s2_6, e_at7, e_s1_7, e_s2_7, e_at8, e_s1_8, e_s2_8, e_at9, e_s1_9, e_s2_9, e_at10, e_s1_10, e_s2_10, e_at11, e_s1_11, e_s2_11, e_at12, e_s1_12, e_s2_12, e_at13, e_s1_13, e_s2_13, e_kn, e_ki, e_kj, e_kd, e_kr, e_k0, e_lI, e_lJ, e_lD, e_lA, e_lA0, e_sI, e_sJ, e_sD, e_sA, e_sA0, e_inc, e_I2, e_I2z, e_I1, e_I2J, e_J2I, e_I2D, e_J2, e_lcmp, e_dcmp, e_ddiv, e_ifeq, e_iceq, e_ifne, e_icne, e_iflt, e_iclt, e_ifge, e_icge, e_ifgt, e_icgt, e_ifle, e_icle, e_ca, e_ca2, e_en, e_en0, e_sw, e_lk0, e_lk, e_dup, e_dup2, e_pop, e_ci, e_cj, e_cd, e_cr, e_c0, e_gf, e_gf2, e_gf3, e_pf, e_pf2, e_f0, e_f1, e_f2, e_f20, e_len, e_len2, e_al, e_al2, e_al3, e_alJ, e_alJ2, e_alJ3, e_alA, e_alA2, e_alA3, e_as, e_as2, e_as3, e_asB, e_asB2, e_asJ, e_asJ2, e_asJ3, e_asA, e_asA2, e_asA3, e_new, e_na, e_na2, e_cat0, e_cat1, e_tk0, e_tk1, e_tk2, e_tk3, e_tk4, e_tk5, e_tk6, e_tk7, e_tk8, e_cS, e_cS2, e_cI_0, e_cI_1, e_cI_2, e_cI_3, e_cI_4, e_cI_5, e_cI2, e_cV_0, e_cV_1, e_cV_2, e_cV_3, e_cV_4, e_cV_5, e_cV_6, e_cV_7, e_cV2, e_cV3, e_oi, e_cp, e_r0, e_r1, e_r2, e_r3, e_r4, e_r5, e_r6, e_r60, e_r7, e_W1, e_W2, e_A1, e_A2, e_Wg, e_Ag, e_rf0, e_rf1, e_len0, e_len1, e_vl0, e_vl1, z00, z10, z11, ↓reduceIte, List.getElem?_cons_zero, List.getElem?_cons_succ, List.set_cons_zero, List.set_cons_succ, and_true, true_and, and_self, or_true, true_or, or_false, false_or, Nat.reduceAdd, Nat.reduceSub, Nat.reduceLT, Nat.reduceLeDiff, Nat.reduceEqDiff, Nat.reduceBEq, beq_self_eq_true, Bool.or_false, Bool.false_or, Bool.or_true, Bool.true_or, not_true, not_false_eq_true, reduceCtorEq, s769_64, s769_65, s769_66, s769_69, s769_72, s769_73, s769_76, s769_77, s769_80, s769_83, s769_84, s769_87, s769_88, s769_91, s769_92, s769_95, pn_n, rn_n, g_r, g_n, g_t, g_k, g_s, g_v, w_r, w_n, pn_g0, u1, u2, u3, u4, hr, hnm, hpb, h0, het4]
  -- a failure is noted
  have fail : ∀ (R : RS) Q, cI NT R → cEt R ≤ 400 → WP d 769 51 [some (.ref r)] [] (rdW σ r nm pb tk ep oaf kd R) Q = Q (.inl (some (.int (nI (cEr (cFail R)))))) (rdW σ r nm pb tk (cEp st (cFail R)) oaf kd (cFail R)) := by
    intro R Q hR het
    have hRf : cI NT (cFail R) := ⟨hR.1, hR.2.1, hR.2.2.1, hR.2.2.2.1, hR.2.2.2.2.1, by show 1 ≤ 5; decide⟩
    rw [← tail (cFail R) Q hRf (by show cAt R ≤ 400; have := hR.1; omega)]
    show WP d 769 51 [some (.ref r)] [] (pnW (rnW σ r nm (cNs R) [.ref tk, .ref nm, .ref pb, .int (nI (cAt R)), .ref (kd (cAt R)), .int (nI (cEr R)), .int (nI (cEt R)), .int ep]) pb (cHs R) (cPs R) (cLs R) oaf (cOd R) (cKf R) (cFa R) (cSa R) (nI (cTc R)) (nI (cPc R)) (nI (cOc R)) (nI (cSc R))) Q = WP d 769 64 [some (.ref r)] [] (pnW (rnW σ r nm (cNs R) [.ref tk, .ref nm, .ref pb, .int (nI (cAt R)), .ref (kd (cAt R)), .int (nI 1), .int (nI (cAt R)), .int ep]) pb (cHs R) (cPs R) (cLs R) oaf (cOd R) (cKf R) (cFa R) (cSa R) (nI (cTc R)) (nI (cPc R)) (nI (cOc R)) (nI (cSc R))) Q
    simp only [WP_eq, e_go, e_none, e_ite, e_thr0, e_ret, e_thr, e_call, e_Kv, e_Kn, e_Kx, e_K2, e_K20, e_at0, e_s1_0, e_s2_0, e_at1, e_s1_1, e_s2_1, e_at2, e_s1_2, e_s2_2, e_at3, e_s1_3, e_s2_3, e_at4, e_s1_4, e_s2_4, e_at5, e_s1_5, e_s2_5, e_at6, e_s1_6, e_s2_6, e_at7, e_s1_7, e_s2_7, e_at8, e_s1_8, e_s2_8, e_at9, e_s1_9, e_s2_9, e_at10, e_s1_10, e_s2_10, e_at11, e_s1_11, e_s2_11, e_at12, e_s1_12, e_s2_12, e_at13, e_s1_13, e_s2_13, e_kn, e_ki, e_kj, e_kd, e_kr, e_k0, e_lI, e_lJ, e_lD, e_lA, e_lA0, e_sI, e_sJ, e_sD, e_sA, e_sA0, e_inc, e_I2, e_I2z, e_I1, e_I2J, e_J2I, e_I2D, e_J2, e_lcmp, e_dcmp, e_ddiv, e_ifeq, e_iceq, e_ifne, e_icne, e_iflt, e_iclt, e_ifge, e_icge, e_ifgt, e_icgt, e_ifle, e_icle, e_ca, e_ca2, e_en, e_en0, e_sw, e_lk0, e_lk, e_dup, e_dup2, e_pop, e_ci, e_cj, e_cd, e_cr, e_c0, e_gf, e_gf2, e_gf3, e_pf, e_pf2, e_f0, e_f1, e_f2, e_f20, e_len, e_len2, e_al, e_al2, e_al3, e_alJ, e_alJ2, e_alJ3, e_alA, e_alA2, e_alA3, e_as, e_as2, e_as3, e_asB, e_asB2, e_asJ, e_asJ2, e_asJ3, e_asA, e_asA2, e_asA3, e_new, e_na, e_na2, e_cat0, e_cat1, e_tk0, e_tk1, e_tk2, e_tk3, e_tk4, e_tk5, e_tk6, e_tk7, e_tk8, e_cS, e_cS2, e_cI_0, e_cI_1, e_cI_2, e_cI_3, e_cI_4, e_cI_5, e_cI2, e_cV_0, e_cV_1, e_cV_2, e_cV_3, e_cV_4, e_cV_5, e_cV_6, e_cV_7, e_cV2, e_cV3, e_oi, e_cp, e_r0, e_r1, e_r2, e_r3, e_r4, e_r5, e_r6, e_r60, e_r7, e_W1, e_W2, e_A1, e_A2, e_Wg, e_Ag, e_rf0, e_rf1, e_len0, e_len1, e_vl0, e_vl1, z00, z10, z11, ↓reduceIte, List.getElem?_cons_zero, List.getElem?_cons_succ, List.set_cons_zero, List.set_cons_succ, and_true, true_and, and_self, or_true, true_or, or_false, false_or, Nat.reduceAdd, Nat.reduceSub, Nat.reduceLT, Nat.reduceLeDiff, Nat.reduceEqDiff, Nat.reduceBEq, beq_self_eq_true, Bool.or_false, Bool.false_or, Bool.or_true, Bool.true_or, not_true, not_false_eq_true, reduceCtorEq, s769_51, s769_52, s769_53, s769_56, s769_57, s769_58, s769_61, pn_n, rn_n, g_r, g_n, g_t, g_k, g_s, g_v, w_r, w_n, pn_g0, u1, u2, u3, u4, hr, hnm, hpb]
  have hBk := pB_book (kd := kd) hE
  rw [head]
  generalize hR1e : cBeg t0 hs ps ls od kf fa sa ns = R1 at *
  have hat1 : cAt R1 = 0 := by rw [← hR1e]; rfl
  have het1 : cEt R1 ≤ 400 := by rw [← hR1e]; exact ht0
  have hRf := fun Q => c_roofs (ep := ep) (d := d - 1) H hE hd2 R1 hR1 Q
  rw [hat1] at hRf
  have hB1 := pB_roofs hE 0 (Nat.zero_le _)
  have hE2 := run_et v hN4 (pBook kd).2 R1 het1 (by rw [hat1]; exact hBk)
  unfold cEnd
  cases hb1 : (pRoofs kd 0).1 with
  | false =>
    have e : pBook kd = pRoofs kd 0 := pSeq_f hb1
    rw [e] at hE2 hBk ⊢
    simp only [hb1, bI_f, Bool.false_eq_true, if_false] at hRf ⊢
    have hI2 : cI NT (runC v R1 (pRoofs kd 0).2) := run_I v _ _ hR1 (by rw [hat1]; exact hBk)
    have hF := fun Q => fail (runC v R1 (pRoofs kd 0).2) Q hI2 hE2
    simp only [WP_eq, e_go, e_none, e_ite, e_thr0, e_ret, e_thr, e_call, e_Kv, e_Kn, e_Kx, e_K2, e_K20, e_at0, e_s1_0, e_s2_0, e_at1, e_s1_1, e_s2_1, e_at2, e_s1_2, e_s2_2, e_at3, e_s1_3, e_s2_3, e_at4, e_s1_4, e_s2_4, e_at5, e_s1_5, e_s2_5, e_at6, e_s1_6, e_s2_6, e_at7, e_s1_7, e_s2_7, e_at8, e_s1_8, e_s2_8, e_at9, e_s1_9, e_s2_9, e_at10, e_s1_10, e_s2_10, e_at11, e_s1_11, e_s2_11, e_at12, e_s1_12, e_s2_12, e_at13, e_s1_13, e_s2_13, e_kn, e_ki, e_kj, e_kd, e_kr, e_k0, e_lI, e_lJ, e_lD, e_lA, e_lA0, e_sI, e_sJ, e_sD, e_sA, e_sA0, e_inc, e_I2, e_I2z, e_I1, e_I2J, e_J2I, e_I2D, e_J2, e_lcmp, e_dcmp, e_ddiv, e_ifeq, e_iceq, e_ifne, e_icne, e_iflt, e_iclt, e_ifge, e_icge, e_ifgt, e_icgt, e_ifle, e_icle, e_ca, e_ca2, e_en, e_en0, e_sw, e_lk0, e_lk, e_dup, e_dup2, e_pop, e_ci, e_cj, e_cd, e_cr, e_c0, e_gf, e_gf2, e_gf3, e_pf, e_pf2, e_f0, e_f1, e_f2, e_f20, e_len, e_len2, e_al, e_al2, e_al3, e_alJ, e_alJ2, e_alJ3, e_alA, e_alA2, e_alA3, e_as, e_as2, e_as3, e_asB, e_asB2, e_asJ, e_asJ2, e_asJ3, e_asA, e_asA2, e_asA3, e_new, e_na, e_na2, e_cat0, e_cat1, e_tk0, e_tk1, e_tk2, e_tk3, e_tk4, e_tk5, e_tk6, e_tk7, e_tk8, e_cS, e_cS2, e_cI_0, e_cI_1, e_cI_2, e_cI_3, e_cI_4, e_cI_5, e_cI2, e_cV_0, e_cV_1, e_cV_2, e_cV_3, e_cV_4, e_cV_5, e_cV_6, e_cV_7, e_cV2, e_cV3, e_oi, e_cp, e_r0, e_r1, e_r2, e_r3, e_r4, e_r5, e_r6, e_r60, e_r7, e_W1, e_W2, e_A1, e_A2, e_Wg, e_Ag, e_rf0, e_rf1, e_len0, e_len1, e_vl0, e_vl1, z00, z10, z11, ↓reduceIte, List.getElem?_cons_zero, List.getElem?_cons_succ, List.set_cons_zero, List.set_cons_succ, and_true, true_and, and_self, or_true, true_or, or_false, false_or, Nat.reduceAdd, Nat.reduceSub, Nat.reduceLT, Nat.reduceLeDiff, Nat.reduceEqDiff, Nat.reduceBEq, beq_self_eq_true, Bool.or_false, Bool.false_or, Bool.or_true, Bool.true_or, not_true, not_false_eq_true, reduceCtorEq, s769_37, s769_38, s769_41, s769_44, s769_45, s769_48, rd_n, hrr, hr, hd1, cal (n775 _) (hRf _)]
    exact stk (hF _)
  | true =>
    have e : pBook kd = ((pLines kd (401 - (0 + skN (pRoofs kd 0).2)) (0 + skN (pRoofs kd 0).2)).1, (pRoofs kd 0).2 ++ (pLines kd (401 - (0 + skN (pRoofs kd 0).2)) (0 + skN (pRoofs kd 0).2)).2) := pSeq_t hb1
    rw [e] at hE2 hBk ⊢
    simp only [hb1, bI_t] at hRf
    have hI2 : cI NT (runC v R1 (pRoofs kd 0).2) := run_I v _ _ hR1 (by rw [hat1]; exact hB1)
    have a2 : cAt (runC v R1 (pRoofs kd 0).2) = 0 + skN (pRoofs kd 0).2 := by rw [run_at, hat1]
    have hL := fun Q => c_lines (ep := ep) (d := d - 1) H hE hK hd78 (runC v R1 (pRoofs kd 0).2) hI2 Q
    rw [a2] at hL
    simp only [runC_app] at hE2 ⊢
    have hB2 := pB_lines hE (401 - (0 + skN (pRoofs kd 0).2)) (0 + skN (pRoofs kd 0).2) hB1
    have hI3 : cI NT (runC v (runC v R1 (pRoofs kd 0).2) (pLines kd (401 - (0 + skN (pRoofs kd 0).2)) (0 + skN (pRoofs kd 0).2)).2) := run_I v _ _ hI2 (by rw [a2]; exact hB2)
    cases hb2 : (pLines kd (401 - (0 + skN (pRoofs kd 0).2)) (0 + skN (pRoofs kd 0).2)).1 with
    | false =>
      simp only [hb2, bI_f, Bool.false_eq_true, if_false] at hL ⊢
      have hF := fun Q => fail _ Q hI3 hE2
      simp only [WP_eq, e_go, e_none, e_ite, e_thr0, e_ret, e_thr, e_call, e_Kv, e_Kn, e_Kx, e_K2, e_K20, e_at0, e_s1_0, e_s2_0, e_at1, e_s1_1, e_s2_1, e_at2, e_s1_2, e_s2_2, e_at3, e_s1_3, e_s2_3, e_at4, e_s1_4, e_s2_4, e_at5, e_s1_5, e_s2_5, e_at6, e_s1_6, e_s2_6, e_at7, e_s1_7, e_s2_7, e_at8, e_s1_8, e_s2_8, e_at9, e_s1_9, e_s2_9, e_at10, e_s1_10, e_s2_10, e_at11, e_s1_11, e_s2_11, e_at12, e_s1_12, e_s2_12, e_at13, e_s1_13, e_s2_13, e_kn, e_ki, e_kj, e_kd, e_kr, e_k0, e_lI, e_lJ, e_lD, e_lA, e_lA0, e_sI, e_sJ, e_sD, e_sA, e_sA0, e_inc, e_I2, e_I2z, e_I1, e_I2J, e_J2I, e_I2D, e_J2, e_lcmp, e_dcmp, e_ddiv, e_ifeq, e_iceq, e_ifne, e_icne, e_iflt, e_iclt, e_ifge, e_icge, e_ifgt, e_icgt, e_ifle, e_icle, e_ca, e_ca2, e_en, e_en0, e_sw, e_lk0, e_lk, e_dup, e_dup2, e_pop, e_ci, e_cj, e_cd, e_cr, e_c0, e_gf, e_gf2, e_gf3, e_pf, e_pf2, e_f0, e_f1, e_f2, e_f20, e_len, e_len2, e_al, e_al2, e_al3, e_alJ, e_alJ2, e_alJ3, e_alA, e_alA2, e_alA3, e_as, e_as2, e_as3, e_asB, e_asB2, e_asJ, e_asJ2, e_asJ3, e_asA, e_asA2, e_asA3, e_new, e_na, e_na2, e_cat0, e_cat1, e_tk0, e_tk1, e_tk2, e_tk3, e_tk4, e_tk5, e_tk6, e_tk7, e_tk8, e_cS, e_cS2, e_cI_0, e_cI_1, e_cI_2, e_cI_3, e_cI_4, e_cI_5, e_cI2, e_cV_0, e_cV_1, e_cV_2, e_cV_3, e_cV_4, e_cV_5, e_cV_6, e_cV_7, e_cV2, e_cV3, e_oi, e_cp, e_r0, e_r1, e_r2, e_r3, e_r4, e_r5, e_r6, e_r60, e_r7, e_W1, e_W2, e_A1, e_A2, e_Wg, e_Ag, e_rf0, e_rf1, e_len0, e_len1, e_vl0, e_vl1, z00, z10, z11, ↓reduceIte, List.getElem?_cons_zero, List.getElem?_cons_succ, List.set_cons_zero, List.set_cons_succ, and_true, true_and, and_self, or_true, true_or, or_false, false_or, Nat.reduceAdd, Nat.reduceSub, Nat.reduceLT, Nat.reduceLeDiff, Nat.reduceEqDiff, Nat.reduceBEq, beq_self_eq_true, Bool.or_false, Bool.false_or, Bool.or_true, Bool.true_or, not_true, not_false_eq_true, reduceCtorEq, s769_37, s769_38, s769_41, s769_44, s769_45, s769_48, rd_n, hrr, hr, hd1, cal (n775 _) (hRf _), cal (n776 _) (hL _)]
      exact stk (hF _)
    | true =>
      simp only [hb2, bI_t, if_true] at hL ⊢
      have hF := fun Q => tail _ Q hI3 hE2
      simp only [WP_eq, e_go, e_none, e_ite, e_thr0, e_ret, e_thr, e_call, e_Kv, e_Kn, e_Kx, e_K2, e_K20, e_at0, e_s1_0, e_s2_0, e_at1, e_s1_1, e_s2_1, e_at2, e_s1_2, e_s2_2, e_at3, e_s1_3, e_s2_3, e_at4, e_s1_4, e_s2_4, e_at5, e_s1_5, e_s2_5, e_at6, e_s1_6, e_s2_6, e_at7, e_s1_7, e_s2_7, e_at8, e_s1_8, e_s2_8, e_at9, e_s1_9, e_s2_9, e_at10, e_s1_10, e_s2_10, e_at11, e_s1_11, e_s2_11, e_at12, e_s1_12, e_s2_12, e_at13, e_s1_13, e_s2_13, e_kn, e_ki, e_kj, e_kd, e_kr, e_k0, e_lI, e_lJ, e_lD, e_lA, e_lA0, e_sI, e_sJ, e_sD, e_sA, e_sA0, e_inc, e_I2, e_I2z, e_I1, e_I2J, e_J2I, e_I2D, e_J2, e_lcmp, e_dcmp, e_ddiv, e_ifeq, e_iceq, e_ifne, e_icne, e_iflt, e_iclt, e_ifge, e_icge, e_ifgt, e_icgt, e_ifle, e_icle, e_ca, e_ca2, e_en, e_en0, e_sw, e_lk0, e_lk, e_dup, e_dup2, e_pop, e_ci, e_cj, e_cd, e_cr, e_c0, e_gf, e_gf2, e_gf3, e_pf, e_pf2, e_f0, e_f1, e_f2, e_f20, e_len, e_len2, e_al, e_al2, e_al3, e_alJ, e_alJ2, e_alJ3, e_alA, e_alA2, e_alA3, e_as, e_as2, e_as3, e_asB, e_asB2, e_asJ, e_asJ2, e_asJ3, e_asA, e_asA2, e_asA3, e_new, e_na, e_na2, e_cat0, e_cat1, e_tk0, e_tk1, e_tk2, e_tk3, e_tk4, e_tk5, e_tk6, e_tk7, e_tk8, e_cS, e_cS2, e_cI_0, e_cI_1, e_cI_2, e_cI_3, e_cI_4, e_cI_5, e_cI2, e_cV_0, e_cV_1, e_cV_2, e_cV_3, e_cV_4, e_cV_5, e_cV_6, e_cV_7, e_cV2, e_cV3, e_oi, e_cp, e_r0, e_r1, e_r2, e_r3, e_r4, e_r5, e_r6, e_r60, e_r7, e_W1, e_W2, e_A1, e_A2, e_Wg, e_Ag, e_rf0, e_rf1, e_len0, e_len1, e_vl0, e_vl1, z00, z10, z11, ↓reduceIte, List.getElem?_cons_zero, List.getElem?_cons_succ, List.set_cons_zero, List.set_cons_succ, and_true, true_and, and_self, or_true, true_or, or_false, false_or, Nat.reduceAdd, Nat.reduceSub, Nat.reduceLT, Nat.reduceLeDiff, Nat.reduceEqDiff, Nat.reduceBEq, beq_self_eq_true, Bool.or_false, Bool.false_or, Bool.or_true, Bool.true_or, not_true, not_false_eq_true, reduceCtorEq, s769_37, s769_38, s769_41, s769_44, s769_45, s769_48, rd_n, hrr, hr, hd1, cal (n775 _) (hRf _), cal (n776 _) (hL _)]
      exact stk (hF _)
