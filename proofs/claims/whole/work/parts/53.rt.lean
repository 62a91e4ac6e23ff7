/-! ===== the class's reader: names, numbers ===== -/
theorem n_At (e : Nat) (R : RS) : cAt (cNote e R) = cAt R := by unfold cNote; split <;> rfl
theorem d_At (v : Nat → Int64) (x : Int64) (R : RS) : ∀ k, cAt (cDup v x k R) = cAt R
  | 0 => rfl
  | k + 1 => by
    rw [cDup]
    split
    · rw [n_At, d_At v x R k]
    · exact d_At v x R k
theorem l_At (v : Nat → Int64) (R : RS) : cAt (cLook v R) = cAt R := by
  unfold cLook
  split
  · exact n_At 3 R
  · rfl
theorem g_At (x lo hi : Int32) (R : RS) : cAt (cRng1 x lo hi R) = cAt R := by
  unfold cRng1
  split
  · exact n_At 5 R
  · split
    · rfl
    · exact n_At 5 R
theorem n_Tc (e : Nat) (R : RS) : cTc (cNote e R) = cTc R := by unfold cNote; split <;> rfl
theorem d_Tc (v : Nat → Int64) (x : Int64) (R : RS) : ∀ k, cTc (cDup v x k R) = cTc R
  | 0 => rfl
  | k + 1 => by
    rw [cDup]
    split
    · rw [n_Tc, d_Tc v x R k]
    · exact d_Tc v x R k
theorem l_Tc (v : Nat → Int64) (R : RS) : cTc (cLook v R) = cTc R := by
  unfold cLook
  split
  · exact n_Tc 3 R
  · rfl
theorem g_Tc (x lo hi : Int32) (R : RS) : cTc (cRng1 x lo hi R) = cTc R := by
  unfold cRng1
  split
  · exact n_Tc 5 R
  · split
    · rfl
    · exact n_Tc 5 R
theorem n_Pc (e : Nat) (R : RS) : cPc (cNote e R) = cPc R := by unfold cNote; split <;> rfl
theorem d_Pc (v : Nat → Int64) (x : Int64) (R : RS) : ∀ k, cPc (cDup v x k R) = cPc R
  | 0 => rfl
  | k + 1 => by
    rw [cDup]
    split
    · rw [n_Pc, d_Pc v x R k]
    · exact d_Pc v x R k
theorem l_Pc (v : Nat → Int64) (R : RS) : cPc (cLook v R) = cPc R := by
  unfold cLook
  split
  · exact n_Pc 3 R
  · rfl
theorem g_Pc (x lo hi : Int32) (R : RS) : cPc (cRng1 x lo hi R) = cPc R := by
  unfold cRng1
  split
  · exact n_Pc 5 R
  · split
    · rfl
    · exact n_Pc 5 R
theorem n_Oc (e : Nat) (R : RS) : cOc (cNote e R) = cOc R := by unfold cNote; split <;> rfl
theorem d_Oc (v : Nat → Int64) (x : Int64) (R : RS) : ∀ k, cOc (cDup v x k R) = cOc R
  | 0 => rfl
  | k + 1 => by
    rw [cDup]
    split
    · rw [n_Oc, d_Oc v x R k]
    · exact d_Oc v x R k
theorem l_Oc (v : Nat → Int64) (R : RS) : cOc (cLook v R) = cOc R := by
  unfold cLook
  split
  · exact n_Oc 3 R
  · rfl
theorem g_Oc (x lo hi : Int32) (R : RS) : cOc (cRng1 x lo hi R) = cOc R := by
  unfold cRng1
  split
  · exact n_Oc 5 R
  · split
    · rfl
    · exact n_Oc 5 R
theorem n_Sc (e : Nat) (R : RS) : cSc (cNote e R) = cSc R := by unfold cNote; split <;> rfl
theorem d_Sc (v : Nat → Int64) (x : Int64) (R : RS) : ∀ k, cSc (cDup v x k R) = cSc R
  | 0 => rfl
  | k + 1 => by
    rw [cDup]
    split
    · rw [n_Sc, d_Sc v x R k]
    · exact d_Sc v x R k
theorem l_Sc (v : Nat → Int64) (R : RS) : cSc (cLook v R) = cSc R := by
  unfold cLook
  split
  · exact n_Sc 3 R
  · rfl
theorem g_Sc (x lo hi : Int32) (R : RS) : cSc (cRng1 x lo hi R) = cSc R := by
  unfold cRng1
  split
  · exact n_Sc 5 R
  · split
    · rfl
    · exact n_Sc 5 R
theorem n_Hs (e : Nat) (R : RS) : cHs (cNote e R) = cHs R := by unfold cNote; split <;> rfl
theorem d_Hs (v : Nat → Int64) (x : Int64) (R : RS) : ∀ k, cHs (cDup v x k R) = cHs R
  | 0 => rfl
  | k + 1 => by
    rw [cDup]
    split
    · rw [n_Hs, d_Hs v x R k]
    · exact d_Hs v x R k
theorem l_Hs (v : Nat → Int64) (R : RS) : cHs (cLook v R) = cHs R := by
  unfold cLook
  split
  · exact n_Hs 3 R
  · rfl
theorem g_Hs (x lo hi : Int32) (R : RS) : cHs (cRng1 x lo hi R) = cHs R := by
  unfold cRng1
  split
  · exact n_Hs 5 R
  · split
    · rfl
    · exact n_Hs 5 R
theorem n_Ps (e : Nat) (R : RS) : cPs (cNote e R) = cPs R := by unfold cNote; split <;> rfl
theorem d_Ps (v : Nat → Int64) (x : Int64) (R : RS) : ∀ k, cPs (cDup v x k R) = cPs R
  | 0 => rfl
  | k + 1 => by
    rw [cDup]
    split
    · rw [n_Ps, d_Ps v x R k]
    · exact d_Ps v x R k
theorem l_Ps (v : Nat → Int64) (R : RS) : cPs (cLook v R) = cPs R := by
  unfold cLook
  split
  · exact n_Ps 3 R
  · rfl
theorem g_Ps (x lo hi : Int32) (R : RS) : cPs (cRng1 x lo hi R) = cPs R := by
  unfold cRng1
  split
  · exact n_Ps 5 R
  · split
    · rfl
    · exact n_Ps 5 R
theorem n_Ls (e : Nat) (R : RS) : cLs (cNote e R) = cLs R := by unfold cNote; split <;> rfl
theorem d_Ls (v : Nat → Int64) (x : Int64) (R : RS) : ∀ k, cLs (cDup v x k R) = cLs R
  | 0 => rfl
  | k + 1 => by
    rw [cDup]
    split
    · rw [n_Ls, d_Ls v x R k]
    · exact d_Ls v x R k
theorem l_Ls (v : Nat → Int64) (R : RS) : cLs (cLook v R) = cLs R := by
  unfold cLook
  split
  · exact n_Ls 3 R
  · rfl
theorem g_Ls (x lo hi : Int32) (R : RS) : cLs (cRng1 x lo hi R) = cLs R := by
  unfold cRng1
  split
  · exact n_Ls 5 R
  · split
    · rfl
    · exact n_Ls 5 R
theorem n_Od (e : Nat) (R : RS) : cOd (cNote e R) = cOd R := by unfold cNote; split <;> rfl
theorem d_Od (v : Nat → Int64) (x : Int64) (R : RS) : ∀ k, cOd (cDup v x k R) = cOd R
  | 0 => rfl
  | k + 1 => by
    rw [cDup]
    split
    · rw [n_Od, d_Od v x R k]
    · exact d_Od v x R k
theorem l_Od (v : Nat → Int64) (R : RS) : cOd (cLook v R) = cOd R := by
  unfold cLook
  split
  · exact n_Od 3 R
  · rfl
theorem g_Od (x lo hi : Int32) (R : RS) : cOd (cRng1 x lo hi R) = cOd R := by
  unfold cRng1
  split
  · exact n_Od 5 R
  · split
    · rfl
    · exact n_Od 5 R
theorem n_Kf (e : Nat) (R : RS) : cKf (cNote e R) = cKf R := by unfold cNote; split <;> rfl
theorem d_Kf (v : Nat → Int64) (x : Int64) (R : RS) : ∀ k, cKf (cDup v x k R) = cKf R
  | 0 => rfl
  | k + 1 => by
    rw [cDup]
    split
    · rw [n_Kf, d_Kf v x R k]
    · exact d_Kf v x R k
theorem l_Kf (v : Nat → Int64) (R : RS) : cKf (cLook v R) = cKf R := by
  unfold cLook
  split
  · exact n_Kf 3 R
  · rfl
theorem g_Kf (x lo hi : Int32) (R : RS) : cKf (cRng1 x lo hi R) = cKf R := by
  unfold cRng1
  split
  · exact n_Kf 5 R
  · split
    · rfl
    · exact n_Kf 5 R
theorem n_Fa (e : Nat) (R : RS) : cFa (cNote e R) = cFa R := by unfold cNote; split <;> rfl
theorem d_Fa (v : Nat → Int64) (x : Int64) (R : RS) : ∀ k, cFa (cDup v x k R) = cFa R
  | 0 => rfl
  | k + 1 => by
    rw [cDup]
    split
    · rw [n_Fa, d_Fa v x R k]
    · exact d_Fa v x R k
theorem l_Fa (v : Nat → Int64) (R : RS) : cFa (cLook v R) = cFa R := by
  unfold cLook
  split
  · exact n_Fa 3 R
  · rfl
theorem g_Fa (x lo hi : Int32) (R : RS) : cFa (cRng1 x lo hi R) = cFa R := by
  unfold cRng1
  split
  · exact n_Fa 5 R
  · split
    · rfl
    · exact n_Fa 5 R
theorem n_Sa (e : Nat) (R : RS) : cSa (cNote e R) = cSa R := by unfold cNote; split <;> rfl
theorem d_Sa (v : Nat → Int64) (x : Int64) (R : RS) : ∀ k, cSa (cDup v x k R) = cSa R
  | 0 => rfl
  | k + 1 => by
    rw [cDup]
    split
    · rw [n_Sa, d_Sa v x R k]
    · exact d_Sa v x R k
theorem l_Sa (v : Nat → Int64) (R : RS) : cSa (cLook v R) = cSa R := by
  unfold cLook
  split
  · exact n_Sa 3 R
  · rfl
theorem g_Sa (x lo hi : Int32) (R : RS) : cSa (cRng1 x lo hi R) = cSa R := by
  unfold cRng1
  split
  · exact n_Sa 5 R
  · split
    · rfl
    · exact n_Sa 5 R
theorem n_Ns (e : Nat) (R : RS) : cNs (cNote e R) = cNs R := by unfold cNote; split <;> rfl
theorem d_Ns (v : Nat → Int64) (x : Int64) (R : RS) : ∀ k, cNs (cDup v x k R) = cNs R
  | 0 => rfl
  | k + 1 => by
    rw [cDup]
    split
    · rw [n_Ns, d_Ns v x R k]
    · exact d_Ns v x R k
theorem l_Ns (v : Nat → Int64) (R : RS) : cNs (cLook v R) = cNs R := by
  unfold cLook
  split
  · exact n_Ns 3 R
  · rfl
theorem g_Ns (x lo hi : Int32) (R : RS) : cNs (cRng1 x lo hi R) = cNs R := by
  unfold cRng1
  split
  · exact n_Ns 5 R
  · split
    · rfl
    · exact n_Ns 5 R
theorem n_M1 (e : Nat) (R : RS) : cM1 (cNote e R) = cM1 R := by unfold cNote; split <;> rfl
theorem d_M1 (v : Nat → Int64) (x : Int64) (R : RS) : ∀ k, cM1 (cDup v x k R) = cM1 R
  | 0 => rfl
  | k + 1 => by
    rw [cDup]
    split
    · rw [n_M1, d_M1 v x R k]
    · exact d_M1 v x R k
theorem l_M1 (v : Nat → Int64) (R : RS) : cM1 (cLook v R) = cM1 R := by
  unfold cLook
  split
  · exact n_M1 3 R
  · rfl
theorem g_M1 (x lo hi : Int32) (R : RS) : cM1 (cRng1 x lo hi R) = cM1 R := by
  unfold cRng1
  split
  · exact n_M1 5 R
  · split
    · rfl
    · exact n_M1 5 R
theorem n_M2 (e : Nat) (R : RS) : cM2 (cNote e R) = cM2 R := by unfold cNote; split <;> rfl
theorem d_M2 (v : Nat → Int64) (x : Int64) (R : RS) : ∀ k, cM2 (cDup v x k R) = cM2 R
  | 0 => rfl
  | k + 1 => by
    rw [cDup]
    split
    · rw [n_M2, d_M2 v x R k]
    · exact d_M2 v x R k
theorem l_M2 (v : Nat → Int64) (R : RS) : cM2 (cLook v R) = cM2 R := by
  unfold cLook
  split
  · exact n_M2 3 R
  · rfl
theorem g_M2 (x lo hi : Int32) (R : RS) : cM2 (cRng1 x lo hi R) = cM2 R := by
  unfold cRng1
  split
  · exact n_M2 5 R
  · split
    · rfl
    · exact n_M2 5 R
theorem cI_note {NT e : Nat} {R : RS} (he : e ≤ 5) (h : cI NT R) : cI NT (cNote e R) := by
  obtain ⟨i1, i2, i3, i4, i5, i6⟩ := h
  refine ⟨by rw [n_At]; exact i1, by rw [n_Tc]; exact i2, by rw [n_Pc]; exact i3, by rw [n_Oc]; exact i4, by rw [n_Sc]; exact i5, ?_⟩
  unfold cNote
  split
  · exact he
  · exact i6
theorem cI_sk {NT : Nat} {R : RS} (h : cI NT R) (ha : cAt R < NT) : cI NT (cSk R) := ⟨ha, h.2.1, h.2.2.1, h.2.2.2.1, h.2.2.2.2.1, h.2.2.2.2.2⟩
theorem cI_look {NT : Nat} {v : Nat → Int64} {R : RS} (h : cI NT R) : cI NT (cLook v R) := by
  unfold cLook
  split
  · exact cI_note (by decide) h
  · exact h
theorem cI_dup {NT : Nat} {v : Nat → Int64} {x : Int64} {R : RS} (h : cI NT R) : ∀ k, cI NT (cDup v x k R)
  | 0 => h
  | k + 1 => by
    rw [cDup]
    split
    · exact cI_note (by decide) (cI_dup h k)
    · exact cI_dup h k
theorem cI_rng {NT : Nat} {x lo hi : Int32} {R : RS} (h : cI NT R) : cI NT (cRng1 x lo hi R) := by
  unfold cRng1
  split
  · exact cI_note (by decide) h
  · split
    · exact h
    · exact cI_note (by decide) h
theorem cI_addS {NT k : Nat} {x y : Int32} {R : RS} (h : cI NT R) : cI NT (cAddS k x y R) := by
  unfold cAddS
  split
  · exact ⟨h.1, h.2.1, h.2.2.1, h.2.2.2.1, (by show cSc R + 1 ≤ 400; omega), h.2.2.2.2.2⟩
  · exact h
theorem cI_addT {NT : Nat} {x : Int32} {R : RS} (h : cI NT R) : cI NT (cAddT x R) := by
  unfold cAddT
  split
  · exact ⟨h.1, (by show cTc R + 1 ≤ 16; omega), h.2.2.1, h.2.2.2.1, h.2.2.2.2.1, h.2.2.2.2.2⟩
  · exact h
theorem cI_addP {NT : Nat} {x y : Int32} {R : RS} (h : cI NT R) : cI NT (cAddP x y R) := by
  unfold cAddP
  split
  · exact ⟨h.1, h.2.1, (by show cPc R + 1 ≤ 8; omega), h.2.2.2.1, h.2.2.2.2.1, h.2.2.2.2.2⟩
  · exact h
theorem cI_addO {NT k : Nat} {q b f t : Int32} {R : RS} (h : cI NT R) : cI NT (cAddO k q b f t R) := by
  unfold cAddO
  split
  · exact ⟨h.1, h.2.1, h.2.2.1, (by show cOc R + 1 ≤ 16; omega), h.2.2.2.2.1, h.2.2.2.2.2⟩
  · exact h
theorem x2_0 (o : Option Nat) (h : ∀ k, o = some k → k < 2 ^ 31) : mxX2 (encO o) (nI 0) = nI (o.getD 0) := by
  cases o with
  | none => decide
  | some k =>
    show (if nI k < nI 0 then nI 0 else nI k) = nI k
    exact if_neg (nI_pos (h k rfl))
theorem lkS_lt (ns : Nat → Int64) (x : Int64) : ∀ n k, lkS ns x n = some k → k < n
  | 0, k, h => by cases h
  | n + 1, k, h => by
    rw [lkS] at h
    by_cases e : ns n = x
    · rw [if_pos e] at h
      have := Option.some.inj h
      omega
    · rw [if_neg e] at h
      have := lkS_lt ns x n k h
      omega
theorem c_knownL {d : Nat} {σ : mxS} {r nm pb tk NT tp tkk tks tkv : Nat} {ep : Int32} {oaf : Nat → Option Nat} {kd : Nat → Nat} {v : Nat → Int64} {kk : Nat → Option Nat} {st : Nat → Int32} {R : RS} (H : rdC σ r nm pb tk oaf kd v NT tp tkk tks tkv kk st) (hR : cI NT R) (hd : 1 ≤ d) (hat : cAt R < NT) {Q : Option Value ⊕ Nat → mxS → Prop} : ∀ m k, k + m = cPc R → WP d 780 16 [some (.ref r), some (.int (encO (lkS (cNs R) (v (cAt R)) k))), some (.int (nI k))] [] (rdW σ r nm pb tk ep oaf kd R) Q = Q (.inl (some (.int (lkV v R (cAt R))))) (rdW σ r nm pb tk ep oaf kd (cSk (cLook v R))) := by
  have hrr := fun R => rd_r (ep := ep) H R
  have rv1 := fun R => (rd_v (ep := ep) H R).1
  have rv4 := fun R => (rd_v (ep := ep) H R).2.2.2.1
  have rv5 := fun R => (rd_v (ep := ep) H R).2.2.2.2
  have hb := H.1.1.2
  have hR3 := cI_note (e := 3) (by decide) hR
  have hRl := cI_look (v := v) hR
  obtain ⟨⟨hr, hnm, hne, hpr, hpn, hp1, hp2⟩, ⟨htk, htkk, htks, htkv⟩, ⟨⟨u1, u2, u3, u4⟩, ⟨o1, o2, o3⟩, ⟨o4, o5, o6⟩, ⟨o7, o8, o9⟩, o10, o11, o12⟩, hkk, hN4, hoa⟩ := id H; obtain ⟨i1, i2, i3, i4, i5, i6⟩ := id hR; have hpb : 1000 ≤ pb ∧ pb < 1000 + σ.2.1 := ⟨hp1, by omega⟩
  have h4 : mxidx (nI (cAt R)) 401 = some (cAt R) := mxidx_nI (by omega) (by decide)
  intro m
  induction m with
  | zero =>
    intro k hk
    have hc : nI (cPc R) ≤ nI k := nI_le (by omega) (by omega)
    have hkP : k = cPc R := by omega
    have hX := fun o h => x2_0 o h
    conv => lhs; rw [WP_eq, s780_16]
    subst hkP
    cases hl : lkS (cNs R) (v (cAt R)) (cPc R) with
    | none =>
      have e1 : cLook v R = cNote 3 R := by unfold cLook; rw [if_pos hl]
      have e2 : lkV v R (cAt R) = mxX2 (-1) (nI 0) := by unfold lkV; rw [hl]; rfl
      rw [e1, e2]
      simp only [WP_eq, e_go, e_none, e_ite, e_thr0, e_ret, e_thr, e_call, e_Kv, e_Kn, e_Kx, e_K2, e_K20, e_at0, e_s1_0, e_s2_0, e_at1, e_s1_1, e_s2_1, e_at2, e_s1_2, e_s2_2, e_at3, e_s1_3, e_s2_3, e_at4, e_s1_4, e_s2_4, e_at5, e_s1_5, e_s2_5, e_at6, e_s1_6, e_s2_6, e_at7, e_s1_7, e_s2_7, e_at8, e_s1_8, e_s2_8, e_at9, e_s1_9, e_s2_9, e_at10, e_s1_10, e_s2_10, e_at11, e_s1_11, e_s2_11, e_at12, e_s1_12, e_s2_12, e_at13, e_s1_13, e_s2_13, e_kn, e_ki, e_kj, e_kd, e_kr, e_k0, e_lI, e_lJ, e_lD, e_lA, e_lA0, e_sI, e_sJ, e_sD, e_sA, e_sA0, e_inc, e_I2, e_I2z, e_I1, e_I2J, e_J2I, e_I2D, e_J2, e_lcmp, e_dcmp, e_ddiv, e_ifeq, e_iceq, e_ifne, e_icne, e_iflt, e_iclt, e_ifge, e_icge, e_ifgt, e_icgt, e_ifle, e_icle, e_ca, e_ca2, e_en, e_en0, e_sw, e_lk0, e_lk, e_dup, e_dup2, e_pop, e_ci, e_cj, e_cd, e_cr, e_c0, e_gf, e_gf2, e_gf3, e_pf, e_pf2, e_f0, e_f1, e_f2, e_f20, e_len, e_len2, e_al, e_al2, e_al3, e_alJ, e_alJ2, e_alJ3, e_alA, e_alA2, e_alA3, e_as, e_as2, e_as3, e_asB, e_asB2, e_asJ, e_asJ2, e_asJ3, e_asA, e_asA2, e_asA3, e_new, e_na, e_na2, e_cat0, e_cat1, e_tk0, e_tk1, e_tk2, e_tk3, e_tk4, e_tk5, e_tk6, e_tk7, e_tk8, e_cS, e_cS2, e_cI_0, e_cI_1, e_cI_2, e_cI_3, e_cI_4, e_cI_5, e_cI2, e_cV_0, e_cV_1, e_cV_2, e_cV_3, e_cV_4, e_cV_5, e_cV_6, e_cV_7, e_cV2, e_cV3, e_oi, e_cp, e_r0, e_r1, e_r2, e_r3, e_r4, e_r5, e_r6, e_r60, e_r7, e_W1, e_W2, e_A1, e_A2, e_Wg, e_Ag, e_rf0, e_rf1, e_len0, e_len1, e_vl0, e_vl1, z00, z10, z11, ↓reduceIte, List.getElem?_cons_zero, List.getElem?_cons_succ, List.set_cons_zero, List.set_cons_succ, and_true, true_and, and_self, or_true, true_or, or_false, false_or, Nat.reduceAdd, Nat.reduceSub, Nat.reduceLT, Nat.reduceLeDiff, Nat.reduceEqDiff, Nat.reduceBEq, beq_self_eq_true, Bool.or_false, Bool.false_or, Bool.or_true, Bool.true_or, not_true, not_false_eq_true, reduceCtorEq, s780_17, s780_18, s780_21, s780_24, s780_57, s780_58, s780_61, s780_62, s780_63, s780_66, s780_67, s780_70, s780_71, s780_72, s780_75, rd_n, hrr, rd_p, hb, hpb, Int32.le_refl, encO, show ¬ 0 ≤ (-1 : Int32) by decide, hd, cal (n774 _ _) (c_note (e := 3) (d := d - 1) H hR), cal (n771 _) (c_skip (d := d - 1) H hR3 (by rw [n_At]; exact hat)), c_max]
    | some j =>
      have hj := lkS_lt _ _ _ _ hl
      have e1 : cLook v R = R := by unfold cLook; rw [if_neg (by rw [hl]; exact fun z => by cases z)]
      have e2 : lkV v R (cAt R) = mxX2 (nI j) (nI 0) := by unfold lkV; rw [hl]; rfl
      rw [e1, e2]
      simp only [WP_eq, e_go, e_none, e_ite, e_thr0, e_ret, e_thr, e_call, e_Kv, e_Kn, e_Kx, e_K2, e_K20, e_at0, e_s1_0, e_s2_0, e_at1, e_s1_1, e_s2_1, e_at2, e_s1_2, e_s2_2, e_at3, e_s1_3, e_s2_3, e_at4, e_s1_4, e_s2_4, e_at5, e_s1_5, e_s2_5, e_at6, e_s1_6, e_s2_6, e_at7, e_s1_7, e_s2_7, e_at8, e_s1_8, e_s2_8, e_at9, e_s1_9, e_s2_9, e_at10, e_s1_10, e_s2_10, e_at11, e_s1_11, e_s2_11, e_at12, e_s1_12, e_s2_12, e_at13, e_s1_13, e_s2_13, e_kn, e_ki, e_kj, e_kd, e_kr, e_k0, e_lI, e_lJ, e_lD, e_lA, e_lA0, e_sI, e_sJ, e_sD, e_sA, e_sA0, e_inc, e_I2, e_I2z, e_I1, e_I2J, e_J2I, e_I2D, e_J2, e_lcmp, e_dcmp, e_ddiv, e_ifeq, e_iceq, e_ifne, e_icne, e_iflt, e_iclt, e_ifge, e_icge, e_ifgt, e_icgt, e_ifle, e_icle, e_ca, e_ca2, e_en, e_en0, e_sw, e_lk0, e_lk, e_dup, e_dup2, e_pop, e_ci, e_cj, e_cd, e_cr, e_c0, e_gf, e_gf2, e_gf3, e_pf, e_pf2, e_f0, e_f1, e_f2, e_f20, e_len, e_len2, e_al, e_al2, e_al3, e_alJ, e_alJ2, e_alJ3, e_alA, e_alA2, e_alA3, e_as, e_as2, e_as3, e_asB, e_asB2, e_asJ, e_asJ2, e_asJ3, e_asA, e_asA2, e_asA3, e_new, e_na, e_na2, e_cat0, e_cat1, e_tk0, e_tk1, e_tk2, e_tk3, e_tk4, e_tk5, e_tk6, e_tk7, e_tk8, e_cS, e_cS2, e_cI_0, e_cI_1, e_cI_2, e_cI_3, e_cI_4, e_cI_5, e_cI2, e_cV_0, e_cV_1, e_cV_2, e_cV_3, e_cV_4, e_cV_5, e_cV_6, e_cV_7, e_cV2, e_cV3, e_oi, e_cp, e_r0, e_r1, e_r2, e_r3, e_r4, e_r5, e_r6, e_r60, e_r7, e_W1, e_W2, e_A1, e_A2, e_Wg, e_Ag, e_rf0, e_rf1, e_len0, e_len1, e_vl0, e_vl1, z00, z10, z11, ↓reduceIte, List.getElem?_cons_zero, List.getElem?_cons_succ, List.set_cons_zero, List.set_cons_succ, and_true, true_and, and_self, or_true, true_or, or_false, false_or, Nat.reduceAdd, Nat.reduceSub, Nat.reduceLT, Nat.reduceLeDiff, Nat.reduceEqDiff, Nat.reduceBEq, beq_self_eq_true, Bool.or_false, Bool.false_or, Bool.or_true, Bool.true_or, not_true, not_false_eq_true, reduceCtorEq, s780_17, s780_18, s780_21, s780_24, s780_57, s780_58, s780_61, s780_62, s780_63, s780_66, s780_67, s780_70, s780_71, s780_72, s780_75, rd_n, hrr, rd_p, hb, hpb, Int32.le_refl, encO, nI_pos' (show j < 2 ^ 31 by omega), hd, cal (n771 _) (c_skip (d := d - 1) H hR hat), c_max]
  | succ m ih =>
    intro k hk
    have IH := ih (k + 1) (by omega)
    have hc : ¬ nI (cPc R) ≤ nI k := nI_ge (by omega) (by omega)
    have hk8 : k < 8 := by omega
    rw [lkS] at IH
    conv => lhs; rw [WP_eq, s780_16]
    by_cases h : cNs R k = v (cAt R)
    · rw [if_pos h, encO] at IH
      simp only [WP_eq, e_go, e_none, e_ite, e_thr0, e_ret, e_thr, e_call, e_Kv, e_Kn, e_Kx, e_K2, e_K20, e_at0, e_s1_0, e_s2_0, e_at1, e_s1_1, e_s2_1, e_at2, e_s1_2, e_s2_2, e_at3, e_s1_3, e_s2_3, e_at4, e_s1_4, e_s2_4, e_at5, e_s1_5, e_s2_5, e_at6, e_s1_6, e_s2_6, e_at7, e_s1_7, e_s2_7, e_at8, e_s1_8, e_s2_8, e_at9, e_s1_9, e_s2_9, e_at10, e_s1_10, e_s2_10, e_at11, e_s1_11, e_s2_11, e_at12, e_s1_12, e_s2_12, e_at13, e_s1_13, e_s2_13, e_kn, e_ki, e_kj, e_kd, e_kr, e_k0, e_lI, e_lJ, e_lD, e_lA, e_lA0, e_sI, e_sJ, e_sD, e_sA, e_sA0, e_inc, e_I2, e_I2z, e_I1, e_I2J, e_J2I, e_I2D, e_J2, e_lcmp, e_dcmp, e_ddiv, e_ifeq, e_iceq, e_ifne, e_icne, e_iflt, e_iclt, e_ifge, e_icge, e_ifgt, e_icgt, e_ifle, e_icle, e_ca, e_ca2, e_en, e_en0, e_sw, e_lk0, e_lk, e_dup, e_dup2, e_pop, e_ci, e_cj, e_cd, e_cr, e_c0, e_gf, e_gf2, e_gf3, e_pf, e_pf2, e_f0, e_f1, e_f2, e_f20, e_len, e_len2, e_al, e_al2, e_al3, e_alJ, e_alJ2, e_alJ3, e_alA, e_alA2, e_alA3, e_as, e_as2, e_as3, e_asB, e_asB2, e_asJ, e_asJ2, e_asJ3, e_asA, e_asA2, e_asA3, e_new, e_na, e_na2, e_cat0, e_cat1, e_tk0, e_tk1, e_tk2, e_tk3, e_tk4, e_tk5, e_tk6, e_tk7, e_tk8, e_cS, e_cS2, e_cI_0, e_cI_1, e_cI_2, e_cI_3, e_cI_4, e_cI_5, e_cI2, e_cV_0, e_cV_1, e_cV_2, e_cV_3, e_cV_4, e_cV_5, e_cV_6, e_cV_7, e_cV2, e_cV3, e_oi, e_cp, e_r0, e_r1, e_r2, e_r3, e_r4, e_r5, e_r6, e_r60, e_r7, e_W1, e_W2, e_A1, e_A2, e_Wg, e_Ag, e_rf0, e_rf1, e_len0, e_len1, e_vl0, e_vl1, z00, z10, z11, ↓reduceIte, List.getElem?_cons_zero, List.getElem?_cons_succ, List.set_cons_zero, List.set_cons_succ, and_true, true_and, and_self, or_true, true_or, or_false, false_or, Nat.reduceAdd, Nat.reduceSub, Nat.reduceLT, Nat.reduceLeDiff, Nat.reduceEqDiff, Nat.reduceBEq, beq_self_eq_true, Bool.or_false, Bool.false_or, Bool.or_true, Bool.true_or, not_true, not_false_eq_true, reduceCtorEq, s780_17, s780_18, s780_21, s780_24, s780_27, s780_28, s780_31, s780_32, s780_33, s780_34, s780_37, s780_40, s780_41, s780_44, s780_45, s780_46, s780_49, s780_50, s780_51, s780_54, rd_n, hrr, rv1, rv4, rv5, rd_p, hb, hpb, hnm, u1, u4, i8 hk8, h4, hc, h, lgc, nIi, stk IH]
    · rw [if_neg h] at IH
      simp only [WP_eq, e_go, e_none, e_ite, e_thr0, e_ret, e_thr, e_call, e_Kv, e_Kn, e_Kx, e_K2, e_K20, e_at0, e_s1_0, e_s2_0, e_at1, e_s1_1, e_s2_1, e_at2, e_s1_2, e_s2_2, e_at3, e_s1_3, e_s2_3, e_at4, e_s1_4, e_s2_4, e_at5, e_s1_5, e_s2_5, e_at6, e_s1_6, e_s2_6, e_at7, e_s1_7, e_s2_7, e_at8, e_s1_8, e_s2_8, e_at9, e_s1_9, e_s2_9, e_at10, e_s1_10, e_s2_10, e_at11, e_s1_11, e_s2_11, e_at12, e_s1_12, e_s2_12, e_at13, e_s1_13, e_s2_13, e_kn, e_ki, e_kj, e_kd, e_kr, e_k0, e_lI, e_lJ, e_lD, e_lA, e_lA0, e_sI, e_sJ, e_sD, e_sA, e_sA0, e_inc, e_I2, e_I2z, e_I1, e_I2J, e_J2I, e_I2D, e_J2, e_lcmp, e_dcmp, e_ddiv, e_ifeq, e_iceq, e_ifne, e_icne, e_iflt, e_iclt, e_ifge, e_icge, e_ifgt, e_icgt, e_ifle, e_icle, e_ca, e_ca2, e_en, e_en0, e_sw, e_lk0, e_lk, e_dup, e_dup2, e_pop, e_ci, e_cj, e_cd, e_cr, e_c0, e_gf, e_gf2, e_gf3, e_pf, e_pf2, e_f0, e_f1, e_f2, e_f20, e_len, e_len2, e_al, e_al2, e_al3, e_alJ, e_alJ2, e_alJ3, e_alA, e_alA2, e_alA3, e_as, e_as2, e_as3, e_asB, e_asB2, e_asJ, e_asJ2, e_asJ3, e_asA, e_asA2, e_asA3, e_new, e_na, e_na2, e_cat0, e_cat1, e_tk0, e_tk1, e_tk2, e_tk3, e_tk4, e_tk5, e_tk6, e_tk7, e_tk8, e_cS, e_cS2, e_cI_0, e_cI_1, e_cI_2, e_cI_3, e_cI_4, e_cI_5, e_cI2, e_cV_0, e_cV_1, e_cV_2, e_cV_3, e_cV_4, e_cV_5, e_cV_6, e_cV_7, e_cV2, e_cV3, e_oi, e_cp, e_r0, e_r1, e_r2, e_r3, e_r4, e_r5, e_r6, e_r60, e_r7, e_W1, e_W2, e_A1, e_A2, e_Wg, e_Ag, e_rf0, e_rf1, e_len0, e_len1, e_vl0, e_vl1, z00, z10, z11, ↓reduceIte, List.getElem?_cons_zero, List.getElem?_cons_succ, List.set_cons_zero, List.set_cons_succ, and_true, true_and, and_self, or_true, true_or, or_false, false_or, Nat.reduceAdd, Nat.reduceSub, Nat.reduceLT, Nat.reduceLeDiff, Nat.reduceEqDiff, Nat.reduceBEq, beq_self_eq_true, Bool.or_false, Bool.false_or, Bool.or_true, Bool.true_or, not_true, not_false_eq_true, reduceCtorEq, s780_17, s780_18, s780_21, s780_24, s780_27, s780_28, s780_31, s780_32, s780_33, s780_34, s780_37, s780_40, s780_41, s780_44, s780_45, s780_46, s780_49, s780_50, s780_51, s780_54, rd_n, hrr, rv1, rv4, rv5, rd_p, hb, hpb, hnm, u1, u4, i8 hk8, h4, hc, h, lgc, nIi, stk IH]
theorem c_known {d : Nat} {σ : mxS} {r nm pb tk NT tp tkk tks tkv : Nat} {ep : Int32} {oaf : Nat → Option Nat} {kd : Nat → Nat} {v : Nat → Int64} {kk : Nat → Option Nat} {st : Nat → Int32} {R : RS} (H : rdC σ r nm pb tk oaf kd v NT tp tkk tks tkv kk st) (hR : cI NT R) (hd : 1 ≤ d) (hat : kd (cAt R) = 43 → cAt R < NT) {Q : Option Value ⊕ Nat → mxS → Prop} : WP d 780 0 [some (.ref r), none, none] [] (rdW σ r nm pb tk ep oaf kd R) Q = if kd (cAt R) = 43 then Q (.inl (some (.int (lkV v R (cAt R))))) (rdW σ r nm pb tk ep oaf kd (cSk (cLook v R))) else Q (.inl (some (.int (-1)))) (rdW σ r nm pb tk ep oaf kd R) := by
  have hrr := fun R => rd_r (ep := ep) H R
  have hb := H.1.1.2
  have k48 := kd47 (ep := ep) H hR
  by_cases h : kd (cAt R) = 43
  · rw [if_pos h]
    have L := c_knownL (ep := ep) (d := d) (Q := Q) H hR hd (hat h) (cPc R) 0 (by omega)
    rw [lkS, encO] at L
    simp only [WP_eq, e_go, e_none, e_ite, e_thr0, e_ret, e_thr, e_call, e_Kv, e_Kn, e_Kx, e_K2, e_K20, e_at0, e_s1_0, e_s2_0, e_at1, e_s1_1, e_s2_1, e_at2, e_s1_2, e_s2_2, e_at3, e_s1_3, e_s2_3, e_at4, e_s1_4, e_s2_4, e_at5, e_s1_5, e_s2_5, e_at6, e_s1_6, e_s2_6, e_at7, e_s1_7, e_s2_7, e_at8, e_s1_8, e_s2_8, e_at9, e_s1_9, e_s2_9, e_at10, e_s1_10, e_s2_10, e_at11, e_s1_11, e_s2_11, e_at12, e_s1_12, e_s2_12, e_at13, e_s1_13, e_s2_13, e_kn, e_ki, e_kj, e_kd, e_kr, e_k0, e_lI, e_lJ, e_lD, e_lA, e_lA0, e_sI, e_sJ, e_sD, e_sA, e_sA0, e_inc, e_I2, e_I2z, e_I1, e_I2J, e_J2I, e_I2D, e_J2, e_lcmp, e_dcmp, e_ddiv, e_ifeq, e_iceq, e_ifne, e_icne, e_iflt, e_iclt, e_ifge, e_icge, e_ifgt, e_icgt, e_ifle, e_icle, e_ca, e_ca2, e_en, e_en0, e_sw, e_lk0, e_lk, e_dup, e_dup2, e_pop, e_ci, e_cj, e_cd, e_cr, e_c0, e_gf, e_gf2, e_gf3, e_pf, e_pf2, e_f0, e_f1, e_f2, e_f20, e_len, e_len2, e_al, e_al2, e_al3, e_alJ, e_alJ2, e_alJ3, e_alA, e_alA2, e_alA3, e_as, e_as2, e_as3, e_asB, e_asB2, e_asJ, e_asJ2, e_asJ3, e_asA, e_asA2, e_asA3, e_new, e_na, e_na2, e_cat0, e_cat1, e_tk0, e_tk1, e_tk2, e_tk3, e_tk4, e_tk5, e_tk6, e_tk7, e_tk8, e_cS, e_cS2, e_cI_0, e_cI_1, e_cI_2, e_cI_3, e_cI_4, e_cI_5, e_cI2, e_cV_0, e_cV_1, e_cV_2, e_cV_3, e_cV_4, e_cV_5, e_cV_6, e_cV_7, e_cV2, e_cV3, e_oi, e_cp, e_r0, e_r1, e_r2, e_r3, e_r4, e_r5, e_r6, e_r60, e_r7, e_W1, e_W2, e_A1, e_A2, e_Wg, e_Ag, e_rf0, e_rf1, e_len0, e_len1, e_vl0, e_vl1, z00, z10, z11, ↓reduceIte, List.getElem?_cons_zero, List.getElem?_cons_succ, List.set_cons_zero, List.set_cons_succ, and_true, true_and, and_self, or_true, true_or, or_false, false_or, Nat.reduceAdd, Nat.reduceSub, Nat.reduceLT, Nat.reduceLeDiff, Nat.reduceEqDiff, Nat.reduceBEq, beq_self_eq_true, Bool.or_false, Bool.false_or, Bool.or_true, Bool.true_or, not_true, not_false_eq_true, reduceCtorEq, s780_0, s780_1, s780_4, s780_7, s780_10, s780_11, s780_12, s780_13, s780_14, s780_15, rd_n, hrr, hb, k48, h, show 43 < 47 by decide, Option.some.injEq, decide_true, stk L]
  · rw [if_neg h]
    simp only [WP_eq, e_go, e_none, e_ite, e_thr0, e_ret, e_thr, e_call, e_Kv, e_Kn, e_Kx, e_K2, e_K20, e_at0, e_s1_0, e_s2_0, e_at1, e_s1_1, e_s2_1, e_at2, e_s1_2, e_s2_2, e_at3, e_s1_3, e_s2_3, e_at4, e_s1_4, e_s2_4, e_at5, e_s1_5, e_s2_5, e_at6, e_s1_6, e_s2_6, e_at7, e_s1_7, e_s2_7, e_at8, e_s1_8, e_s2_8, e_at9, e_s1_9, e_s2_9, e_at10, e_s1_10, e_s2_10, e_at11, e_s1_11, e_s2_11, e_at12, e_s1_12, e_s2_12, e_at13, e_s1_13, e_s2_13, e_kn, e_ki, e_kj, e_kd, e_kr, e_k0, e_lI, e_lJ, e_lD, e_lA, e_lA0, e_sI, e_sJ, e_sD, e_sA, e_sA0, e_inc, e_I2, e_I2z, e_I1, e_I2J, e_J2I, e_I2D, e_J2, e_lcmp, e_dcmp, e_ddiv, e_ifeq, e_iceq, e_ifne, e_icne, e_iflt, e_iclt, e_ifge, e_icge, e_ifgt, e_icgt, e_ifle, e_icle, e_ca, e_ca2, e_en, e_en0, e_sw, e_lk0, e_lk, e_dup, e_dup2, e_pop, e_ci, e_cj, e_cd, e_cr, e_c0, e_gf, e_gf2, e_gf3, e_pf, e_pf2, e_f0, e_f1, e_f2, e_f20, e_len, e_len2, e_al, e_al2, e_al3, e_alJ, e_alJ2, e_alJ3, e_alA, e_alA2, e_alA3, e_as, e_as2, e_as3, e_asB, e_asB2, e_asJ, e_asJ2, e_asJ3, e_asA, e_asA2, e_asA3, e_new, e_na, e_na2, e_cat0, e_cat1, e_tk0, e_tk1, e_tk2, e_tk3, e_tk4, e_tk5, e_tk6, e_tk7, e_tk8, e_cS, e_cS2, e_cI_0, e_cI_1, e_cI_2, e_cI_3, e_cI_4, e_cI_5, e_cI2, e_cV_0, e_cV_1, e_cV_2, e_cV_3, e_cV_4, e_cV_5, e_cV_6, e_cV_7, e_cV2, e_cV3, e_oi, e_cp, e_r0, e_r1, e_r2, e_r3, e_r4, e_r5, e_r6, e_r60, e_r7, e_W1, e_W2, e_A1, e_A2, e_Wg, e_Ag, e_rf0, e_rf1, e_len0, e_len1, e_vl0, e_vl1, z00, z10, z11, ↓reduceIte, List.getElem?_cons_zero, List.getElem?_cons_succ, List.set_cons_zero, List.set_cons_succ, and_true, true_and, and_self, or_true, true_or, or_false, false_or, Nat.reduceAdd, Nat.reduceSub, Nat.reduceLT, Nat.reduceLeDiff, Nat.reduceEqDiff, Nat.reduceBEq, beq_self_eq_true, Bool.or_false, Bool.false_or, Bool.or_true, Bool.true_or, not_true, not_false_eq_true, reduceCtorEq, s780_0, s780_1, s780_4, s780_7, s780_10, s780_11, s780_12, s780_13, s780_14, s780_15, rd_n, hrr, hb, k48, h, show 43 < 47 by decide, Option.some.injEq, decide_false, Bool.false_eq_true]
theorem c_number {d : Nat} {lo hi : Int32} {σ : mxS} {r nm pb tk NT tp tkk tks tkv : Nat} {ep : Int32} {oaf : Nat → Option Nat} {kd : Nat → Nat} {v : Nat → Int64} {kk : Nat → Option Nat} {st : Nat → Int32} {R : RS} (H : rdC σ r nm pb tk oaf kd v NT tp tkk tks tkv kk st) (hR : cI NT R) (hd : 1 ≤ d) (hat : cAt R < NT) {Q : Option Value ⊕ Nat → mxS → Prop} : WP d 779 0 [some (.ref r), some (.int lo), some (.int hi), none] [] (rdW σ r nm pb tk ep oaf kd R) Q = Q (.inl (some (.int ((v (cAt R)).toInt32)))) (rdW σ r nm pb tk ep oaf kd (cSk (cRng1 ((v (cAt R)).toInt32) lo hi R))) := by
  have hrr := fun R => rd_r (ep := ep) H R
  have rv1 := fun R => (rd_v (ep := ep) H R).1
  have rv4 := fun R => (rd_v (ep := ep) H R).2.2.2.1
  have rv5 := fun R => (rd_v (ep := ep) H R).2.2.2.2
  have hb := H.1.1.2
  have hR5 := cI_note (e := 5) (by decide) hR
  obtain ⟨⟨hr, hnm, hne, hpr, hpn, hp1, hp2⟩, ⟨htk, htkk, htks, htkv⟩, ⟨⟨u1, u2, u3, u4⟩, ⟨o1, o2, o3⟩, ⟨o4, o5, o6⟩, ⟨o7, o8, o9⟩, o10, o11, o12⟩, hkk, hN4, hoa⟩ := id H; obtain ⟨i1, i2, i3, i4, i5, i6⟩ := id hR; have hpb : 1000 ≤ pb ∧ pb < 1000 + σ.2.1 := ⟨hp1, by omega⟩
  have h4 : mxidx (nI (cAt R)) 401 = some (cAt R) := mxidx_nI (by omega) (by decide)
  unfold cRng1
  by_cases h1 : (v (cAt R)).toInt32 < lo
  · rw [if_pos h1]
    simp only [WP_eq, e_go, e_none, e_ite, e_thr0, e_ret, e_thr, e_call, e_Kv, e_Kn, e_Kx, e_K2, e_K20, e_at0, e_s1_0, e_s2_0, e_at1, e_s1_1, e_s2_1, e_at2, e_s1_2, e_s2_2, e_at3, e_s1_3, e_s2_3, e_at4, e_s1_4, e_s2_4, e_at5, e_s1_5, e_s2_5, e_at6, e_s1_6, e_s2_6, e_at7, e_s1_7, e_s2_7, e_at8, e_s1_8, e_s2_8, e_at9, e_s1_9, e_s2_9, e_at10, e_s1_10, e_s2_10, e_at11, e_s1_11, e_s2_11, e_at12, e_s1_12, e_s2_12, e_at13, e_s1_13, e_s2_13, e_kn, e_ki, e_kj, e_kd, e_kr, e_k0, e_lI, e_lJ, e_lD, e_lA, e_lA0, e_sI, e_sJ, e_sD, e_sA, e_sA0, e_inc, e_I2, e_I2z, e_I1, e_I2J, e_J2I, e_I2D, e_J2, e_lcmp, e_dcmp, e_ddiv, e_ifeq, e_iceq, e_ifne, e_icne, e_iflt, e_iclt, e_ifge, e_icge, e_ifgt, e_icgt, e_ifle, e_icle, e_ca, e_ca2, e_en, e_en0, e_sw, e_lk0, e_lk, e_dup, e_dup2, e_pop, e_ci, e_cj, e_cd, e_cr, e_c0, e_gf, e_gf2, e_gf3, e_pf, e_pf2, e_f0, e_f1, e_f2, e_f20, e_len, e_len2, e_al, e_al2, e_al3, e_alJ, e_alJ2, e_alJ3, e_alA, e_alA2, e_alA3, e_as, e_as2, e_as3, e_asB, e_asB2, e_asJ, e_asJ2, e_asJ3, e_asA, e_asA2, e_asA3, e_new, e_na, e_na2, e_cat0, e_cat1, e_tk0, e_tk1, e_tk2, e_tk3, e_tk4, e_tk5, e_tk6, e_tk7, e_tk8, e_cS, e_cS2, e_cI_0, e_cI_1, e_cI_2, e_cI_3, e_cI_4, e_cI_5, e_cI2, e_cV_0, e_cV_1, e_cV_2, e_cV_3, e_cV_4, e_cV_5, e_cV_6, e_cV_7, e_cV2, e_cV3, e_oi, e_cp, e_r0, e_r1, e_r2, e_r3, e_r4, e_r5, e_r6, e_r60, e_r7, e_W1, e_W2, e_A1, e_A2, e_Wg, e_Ag, e_rf0, e_rf1, e_len0, e_len1, e_vl0, e_vl1, z00, z10, z11, ↓reduceIte, List.getElem?_cons_zero, List.getElem?_cons_succ, List.set_cons_zero, List.set_cons_succ, and_true, true_and, and_self, or_true, true_or, or_false, false_or, Nat.reduceAdd, Nat.reduceSub, Nat.reduceLT, Nat.reduceLeDiff, Nat.reduceEqDiff, Nat.reduceBEq, beq_self_eq_true, Bool.or_false, Bool.false_or, Bool.or_true, Bool.true_or, not_true, not_false_eq_true, reduceCtorEq, s779_0, s779_1, s779_4, s779_7, s779_8, s779_11, s779_12, s779_13, s779_14, s779_15, s779_16, s779_19, s779_20, s779_21, s779_24, s779_25, s779_26, s779_29, s779_30, s779_33, s779_34, rd_n, hrr, rv1, rv4, hb, u1, u4, h4, h1, hd, cal (n774 _ _) (c_note (e := 5) (d := d - 1) H hR), cal (n771 _) (c_skip (d := d - 1) H hR5 (by rw [n_At]; exact hat))]
  · rw [if_neg h1]
    by_cases h2 : (v (cAt R)).toInt32 ≤ hi
    · rw [if_pos h2]
      simp only [WP_eq, e_go, e_none, e_ite, e_thr0, e_ret, e_thr, e_call, e_Kv, e_Kn, e_Kx, e_K2, e_K20, e_at0, e_s1_0, e_s2_0, e_at1, e_s1_1, e_s2_1, e_at2, e_s1_2, e_s2_2, e_at3, e_s1_3, e_s2_3, e_at4, e_s1_4, e_s2_4, e_at5, e_s1_5, e_s2_5, e_at6, e_s1_6, e_s2_6, e_at7, e_s1_7, e_s2_7, e_at8, e_s1_8, e_s2_8, e_at9, e_s1_9, e_s2_9, e_at10, e_s1_10, e_s2_10, e_at11, e_s1_11, e_s2_11, e_at12, e_s1_12, e_s2_12, e_at13, e_s1_13, e_s2_13, e_kn, e_ki, e_kj, e_kd, e_kr, e_k0, e_lI, e_lJ, e_lD, e_lA, e_lA0, e_sI, e_sJ, e_sD, e_sA, e_sA0, e_inc, e_I2, e_I2z, e_I1, e_I2J, e_J2I, e_I2D, e_J2, e_lcmp, e_dcmp, e_ddiv, e_ifeq, e_iceq, e_ifne, e_icne, e_iflt, e_iclt, e_ifge, e_icge, e_ifgt, e_icgt, e_ifle, e_icle, e_ca, e_ca2, e_en, e_en0, e_sw, e_lk0, e_lk, e_dup, e_dup2, e_pop, e_ci, e_cj, e_cd, e_cr, e_c0, e_gf, e_gf2, e_gf3, e_pf, e_pf2, e_f0, e_f1, e_f2, e_f20, e_len, e_len2, e_al, e_al2, e_al3, e_alJ, e_alJ2, e_alJ3, e_alA, e_alA2, e_alA3, e_as, e_as2, e_as3, e_asB, e_asB2, e_asJ, e_asJ2, e_asJ3, e_asA, e_asA2, e_asA3, e_new, e_na, e_na2, e_cat0, e_cat1, e_tk0, e_tk1, e_tk2, e_tk3, e_tk4, e_tk5, e_tk6, e_tk7, e_tk8, e_cS, e_cS2, e_cI_0, e_cI_1, e_cI_2, e_cI_3, e_cI_4, e_cI_5, e_cI2, e_cV_0, e_cV_1, e_cV_2, e_cV_3, e_cV_4, e_cV_5, e_cV_6, e_cV_7, e_cV2, e_cV3, e_oi, e_cp, e_r0, e_r1, e_r2, e_r3, e_r4, e_r5, e_r6, e_r60, e_r7, e_W1, e_W2, e_A1, e_A2, e_Wg, e_Ag, e_rf0, e_rf1, e_len0, e_len1, e_vl0, e_vl1, z00, z10, z11, ↓reduceIte, List.getElem?_cons_zero, List.getElem?_cons_succ, List.set_cons_zero, List.set_cons_succ, and_true, true_and, and_self, or_true, true_or, or_false, false_or, Nat.reduceAdd, Nat.reduceSub, Nat.reduceLT, Nat.reduceLeDiff, Nat.reduceEqDiff, Nat.reduceBEq, beq_self_eq_true, Bool.or_false, Bool.false_or, Bool.or_true, Bool.true_or, not_true, not_false_eq_true, reduceCtorEq, s779_0, s779_1, s779_4, s779_7, s779_8, s779_11, s779_12, s779_13, s779_14, s779_15, s779_16, s779_19, s779_20, s779_21, s779_24, s779_25, s779_26, s779_29, s779_30, s779_33, s779_34, rd_n, hrr, rv1, rv4, hb, u1, u4, h4, h1, h2, hd, cal (n771 _) (c_skip (d := d - 1) H hR hat)]
    · rw [if_neg h2]
      simp only [WP_eq, e_go, e_none, e_ite, e_thr0, e_ret, e_thr, e_call, e_Kv, e_Kn, e_Kx, e_K2, e_K20, e_at0, e_s1_0, e_s2_0, e_at1, e_s1_1, e_s2_1, e_at2, e_s1_2, e_s2_2, e_at3, e_s1_3, e_s2_3, e_at4, e_s1_4, e_s2_4, e_at5, e_s1_5, e_s2_5, e_at6, e_s1_6, e_s2_6, e_at7, e_s1_7, e_s2_7, e_at8, e_s1_8, e_s2_8, e_at9, e_s1_9, e_s2_9, e_at10, e_s1_10, e_s2_10, e_at11, e_s1_11, e_s2_11, e_at12, e_s1_12, e_s2_12, e_at13, e_s1_13, e_s2_13, e_kn, e_ki, e_kj, e_kd, e_kr, e_k0, e_lI, e_lJ, e_lD, e_lA, e_lA0, e_sI, e_sJ, e_sD, e_sA, e_sA0, e_inc, e_I2, e_I2z, e_I1, e_I2J, e_J2I, e_I2D, e_J2, e_lcmp, e_dcmp, e_ddiv, e_ifeq, e_iceq, e_ifne, e_icne, e_iflt, e_iclt, e_ifge, e_icge, e_ifgt, e_icgt, e_ifle, e_icle, e_ca, e_ca2, e_en, e_en0, e_sw, e_lk0, e_lk, e_dup, e_dup2, e_pop, e_ci, e_cj, e_cd, e_cr, e_c0, e_gf, e_gf2, e_gf3, e_pf, e_pf2, e_f0, e_f1, e_f2, e_f20, e_len, e_len2, e_al, e_al2, e_al3, e_alJ, e_alJ2, e_alJ3, e_alA, e_alA2, e_alA3, e_as, e_as2, e_as3, e_asB, e_asB2, e_asJ, e_asJ2, e_asJ3, e_asA, e_asA2, e_asA3, e_new, e_na, e_na2, e_cat0, e_cat1, e_tk0, e_tk1, e_tk2, e_tk3, e_tk4, e_tk5, e_tk6, e_tk7, e_tk8, e_cS, e_cS2, e_cI_0, e_cI_1, e_cI_2, e_cI_3, e_cI_4, e_cI_5, e_cI2, e_cV_0, e_cV_1, e_cV_2, e_cV_3, e_cV_4, e_cV_5, e_cV_6, e_cV_7, e_cV2, e_cV3, e_oi, e_cp, e_r0, e_r1, e_r2, e_r3, e_r4, e_r5, e_r6, e_r60, e_r7, e_W1, e_W2, e_A1, e_A2, e_Wg, e_Ag, e_rf0, e_rf1, e_len0, e_len1, e_vl0, e_vl1, z00, z10, z11, ↓reduceIte, List.getElem?_cons_zero, List.getElem?_cons_succ, List.set_cons_zero, List.set_cons_succ, and_true, true_and, and_self, or_true, true_or, or_false, false_or, Nat.reduceAdd, Nat.reduceSub, Nat.reduceLT, Nat.reduceLeDiff, Nat.reduceEqDiff, Nat.reduceBEq, beq_self_eq_true, Bool.or_false, Bool.false_or, Bool.or_true, Bool.true_or, not_true, not_false_eq_true, reduceCtorEq, s779_0, s779_1, s779_4, s779_7, s779_8, s779_11, s779_12, s779_13, s779_14, s779_15, s779_16, s779_19, s779_20, s779_21, s779_24, s779_25, s779_26, s779_29, s779_30, s779_33, s779_34, rd_n, hrr, rv1, rv4, hb, u1, u4, h4, h1, h2, hd, cal (n774 _ _) (c_note (e := 5) (d := d - 1) H hR), cal (n771 _) (c_skip (d := d - 1) H hR5 (by rw [n_At]; exact hat))]
theorem c_setN {x : Int64} {σ : mxS} {r nm pb tk NT tp tkk tks tkv : Nat} {ep : Int32} {oaf : Nat → Option Nat} {kd : Nat → Nat} {v : Nat → Int64} {kk : Nat → Option Nat} {st : Nat → Int32} {R : RS} (H : rdC σ r nm pb tk oaf kd v NT tp tkk tks tkv kk st) (hR : cI NT R) : mxWr (rdW σ r nm pb tk ep oaf kd R) nm (.inl (1, 8, .inr (.inl (va_up (cNs R) (cPc R) x)))) = rdW σ r nm pb tk ep oaf kd (cSet x R) := by
  obtain ⟨⟨hr, hnm, hne, hpr, hpn, hp1, hp2⟩, ⟨htk, htkk, htks, htkv⟩, ⟨⟨u1, u2, u3, u4⟩, ⟨o1, o2, o3⟩, ⟨o4, o5, o6⟩, ⟨o7, o8, o9⟩, o10, o11, o12⟩, hkk, hN4, hoa⟩ := id H; obtain ⟨i1, i2, i3, i4, i5, i6⟩ := id hR; have hpb : 1000 ≤ pb ∧ pb < 1000 + σ.2.1 := ⟨hp1, by omega⟩
  have g_r := fun (ns : Nat → Int64) (fs : List Value) (hs ps ls : Nat → Int32) (oaf : Nat → Option Nat) (od : Nat → Nat × Int32 × Int32 × Int32 × Int32 × Int32) (kf : Nat → Option Nat) (fa sa : Nat → Int32) (tc pc oc sc : Int32) => (pn_o (rnW σ r nm ns fs) pb hs ps ls oaf od kf fa sa tc pc oc sc hpr).trans (rn_g σ r nm ns fs); have g_n := fun (ns : Nat → Int64) (fs : List Value) (hs ps ls : Nat → Int32) (oaf : Nat → Option Nat) (od : Nat → Nat × Int32 × Int32 × Int32 × Int32 × Int32) (kf : Nat → Option Nat) (fa sa : Nat → Int32) (tc pc oc sc : Int32) => (pn_o (rnW σ r nm ns fs) pb hs ps ls oaf od kf fa sa tc pc oc sc hpn).trans (rn_gn σ ns fs hne); have g_t := fun (ns : Nat → Int64) (fs : List Value) (hs ps ls : Nat → Int32) (oaf : Nat → Option Nat) (od : Nat → Nat × Int32 × Int32 × Int32 × Int32 × Int32) (kf : Nat → Option Nat) (fa sa : Nat → Int32) (tc pc oc sc : Int32) => ((pn_o (rnW σ r nm ns fs) pb hs ps ls oaf od kf fa sa tc pc oc sc o3).trans (rn_o σ ns fs o1 o2)).trans htk; have g_k := fun (ns : Nat → Int64) (fs : List Value) (hs ps ls : Nat → Int32) (oaf : Nat → Option Nat) (od : Nat → Nat × Int32 × Int32 × Int32 × Int32 × Int32) (kf : Nat → Option Nat) (fa sa : Nat → Int32) (tc pc oc sc : Int32) => ((pn_o (rnW σ r nm ns fs) pb hs ps ls oaf od kf fa sa tc pc oc sc o6).trans (rn_o σ ns fs o4 o5)).trans htkk; have g_s := fun (ns : Nat → Int64) (fs : List Value) (hs ps ls : Nat → Int32) (oaf : Nat → Option Nat) (od : Nat → Nat × Int32 × Int32 × Int32 × Int32 × Int32) (kf : Nat → Option Nat) (fa sa : Nat → Int32) (tc pc oc sc : Int32) => ((pn_o (rnW σ r nm ns fs) pb hs ps ls oaf od kf fa sa tc pc oc sc o9).trans (rn_o σ ns fs o7 o8)).trans htks; have g_v := fun (ns : Nat → Int64) (fs : List Value) (hs ps ls : Nat → Int32) (oaf : Nat → Option Nat) (od : Nat → Nat × Int32 × Int32 × Int32 × Int32 × Int32) (kf : Nat → Option Nat) (fa sa : Nat → Int32) (tc pc oc sc : Int32) => ((pn_o (rnW σ r nm ns fs) pb hs ps ls oaf od kf fa sa tc pc oc sc o12).trans (rn_o σ ns fs o10 o11)).trans htkv; have w_r := fun (ns : Nat → Int64) (fs fs' : List Value) (hs ps ls : Nat → Int32) (oaf : Nat → Option Nat) (od : Nat → Nat × Int32 × Int32 × Int32 × Int32 × Int32) (kf : Nat → Option Nat) (fa sa : Nat → Int32) (tc pc oc sc : Int32) => (pn_wo (rnW σ r nm ns fs) pb hs ps ls oaf od kf fa sa tc pc oc sc (.inr (4, fs')) hpr).trans (congrArg (fun z => pnW z pb hs ps ls oaf od kf fa sa tc pc oc sc) (rn_w σ r nm ns fs fs')); have w_n := fun (ns ns' : Nat → Int64) (fs : List Value) (hs ps ls : Nat → Int32) (oaf : Nat → Option Nat) (od : Nat → Nat × Int32 × Int32 × Int32 × Int32 × Int32) (kf : Nat → Option Nat) (fa sa : Nat → Int32) (tc pc oc sc : Int32) => (pn_wo (rnW σ r nm ns fs) pb hs ps ls oaf od kf fa sa tc pc oc sc (.inl (1, 8, .inr (.inl ns'))) hpn).trans (congrArg (fun z => pnW z pb hs ps ls oaf od kf fa sa tc pc oc sc) (rn_wn σ ns ns' fs hne))
  exact w_n ..
theorem c_newL {d : Nat} {σ : mxS} {r nm pb tk NT tp tkk tks tkv : Nat} {ep : Int32} {oaf : Nat → Option Nat} {kd : Nat → Nat} {v : Nat → Int64} {kk : Nat → Option Nat} {st : Nat → Int32} {R : RS} (H : rdC σ r nm pb tk oaf kd v NT tp tkk tks tkv kk st) (hR : cI NT R) (hd : 1 ≤ d) (hat : cAt R < NT) {Q : Option Value ⊕ Nat → mxS → Prop} : ∀ m k, k + m = cPc R → WP d 778 2 [some (.ref r), some (.int (nI k))] [] (rdW σ r nm pb tk ep oaf kd (cDup v (v (cAt R)) k R)) Q = Q (.inl none) (rdW σ r nm pb tk ep oaf kd (cSk (cNew v R))) := by
  have hb := H.1.1.2
  have HD := fun k => cI_dup (v := v) (x := v (cAt R)) hR k
  have hrr := fun R => rd_r (ep := ep) H R
  have r1 := fun R => (rd_v (ep := ep) H R).1
  have r4 := fun R => (rd_v (ep := ep) H R).2.2.2.1
  have r5 := fun R => (rd_v (ep := ep) H R).2.2.2.2
  have H' := H
  obtain ⟨⟨hr, hnm, hne, hpr, hpn, hp1, hp2⟩, ⟨htk, htkk, htks, htkv⟩, ⟨⟨u1, u2, u3, u4⟩, ⟨o1, o2, o3⟩, ⟨o4, o5, o6⟩, ⟨o7, o8, o9⟩, o10, o11, o12⟩, hkk, hN4, hoa⟩ := id H; obtain ⟨i1, i2, i3, i4, i5, i6⟩ := id hR; have hpb : 1000 ≤ pb ∧ pb < 1000 + σ.2.1 := ⟨hp1, by omega⟩
  have h4 : mxidx (nI (cAt R)) 401 = some (cAt R) := mxidx_nI (by omega) (by decide)
  intro m
  induction m with
  | zero =>
    intro k hk
    have hkP : k = cPc R := by omega
    subst hkP
    conv => lhs; rw [WP_eq, s778_2]
    unfold cNew
    by_cases h8 : cPc R < 8
    · rw [if_pos h8]
      have hc : ¬ nI 8 ≤ nI (cPc R) := nI_ge h8 (by omega)
      have hS := c_setN (x := v (cAt R)) (ep := ep) H' (HD (cPc R))
      rw [d_Pc, d_Ns] at hS
      have hI : cI NT (cSet (v (cAt R)) (cDup v (v (cAt R)) (cPc R) R)) := HD (cPc R)
      simp only [WP_eq, e_go, e_none, e_ite, e_thr0, e_ret, e_thr, e_call, e_Kv, e_Kn, e_Kx, e_K2, e_K20, e_at0, e_s1_0, e_s2_0, e_at1, e_s1_1, e_s2_1, e_at2, e_s1_2, e_s2_2, e_at3, e_s1_3, e_s2_3, e_at4, e_s1_4, e_s2_4, e_at5, e_s1_5, e_s2_5, e_at6, e_s1_6, e_s2_6, e_at7, e_s1_7, e_s2_7, e_at8, e_s1_8, e_s2_8, e_at9, e_s1_9, e_s2_9, e_at10, e_s1_10, e_s2_10, e_at11, e_s1_11, e_s2_11, e_at12, e_s1_12, e_s2_12, e_at13, e_s1_13, e_s2_13, e_kn, e_ki, e_kj, e_kd, e_kr, e_k0, e_lI, e_lJ, e_lD, e_lA, e_lA0, e_sI, e_sJ, e_sD, e_sA, e_sA0, e_inc, e_I2, e_I2z, e_I1, e_I2J, e_J2I, e_I2D, e_J2, e_lcmp, e_dcmp, e_ddiv, e_ifeq, e_iceq, e_ifne, e_icne, e_iflt, e_iclt, e_ifge, e_icge, e_ifgt, e_icgt, e_ifle, e_icle, e_ca, e_ca2, e_en, e_en0, e_sw, e_lk0, e_lk, e_dup, e_dup2, e_pop, e_ci, e_cj, e_cd, e_cr, e_c0, e_gf, e_gf2, e_gf3, e_pf, e_pf2, e_f0, e_f1, e_f2, e_f20, e_len, e_len2, e_al, e_al2, e_al3, e_alJ, e_alJ2, e_alJ3, e_alA, e_alA2, e_alA3, e_as, e_as2, e_as3, e_asB, e_asB2, e_asJ, e_asJ2, e_asJ3, e_asA, e_asA2, e_asA3, e_new, e_na, e_na2, e_cat0, e_cat1, e_tk0, e_tk1, e_tk2, e_tk3, e_tk4, e_tk5, e_tk6, e_tk7, e_tk8, e_cS, e_cS2, e_cI_0, e_cI_1, e_cI_2, e_cI_3, e_cI_4, e_cI_5, e_cI2, e_cV_0, e_cV_1, e_cV_2, e_cV_3, e_cV_4, e_cV_5, e_cV_6, e_cV_7, e_cV2, e_cV3, e_oi, e_cp, e_r0, e_r1, e_r2, e_r3, e_r4, e_r5, e_r6, e_r60, e_r7, e_W1, e_W2, e_A1, e_A2, e_Wg, e_Ag, e_rf0, e_rf1, e_len0, e_len1, e_vl0, e_vl1, z00, z10, z11, ↓reduceIte, List.getElem?_cons_zero, List.getElem?_cons_succ, List.set_cons_zero, List.set_cons_succ, and_true, true_and, and_self, or_true, true_or, or_false, false_or, Nat.reduceAdd, Nat.reduceSub, Nat.reduceLT, Nat.reduceLeDiff, Nat.reduceEqDiff, Nat.reduceBEq, beq_self_eq_true, Bool.or_false, Bool.false_or, Bool.or_true, Bool.true_or, not_true, not_false_eq_true, reduceCtorEq, s778_3, s778_4, s778_7, s778_10, s778_46, s778_47, s778_50, s778_53, s778_55, s778_58, s778_59, s778_62, s778_63, s778_66, s778_69, s778_70, s778_73, s778_76, s778_77, s778_80, s778_81, s778_82, s778_85, s778_86, s778_87, s778_90, s778_91, s778_94, rd_n, hrr, r1, r4, r5, rd_p, hb, hpb, hnm, u1, u4, d_Pc, d_At, d_Ns, Int32.le_refl, hc, h4, i8 h8, hS, hd, cal (n771 _) (c_skip (d := d - 1) H' hI (by show cAt (cDup v (v (cAt R)) (cPc R) R) < NT; rw [d_At]; exact hat))]
    · rw [if_neg h8]
      have hc : nI 8 ≤ nI (cPc R) := nI_le (by omega) (by omega)
      have hI4 := cI_note (e := 4) (by decide) (HD (cPc R))
      simp only [WP_eq, e_go, e_none, e_ite, e_thr0, e_ret, e_thr, e_call, e_Kv, e_Kn, e_Kx, e_K2, e_K20, e_at0, e_s1_0, e_s2_0, e_at1, e_s1_1, e_s2_1, e_at2, e_s1_2, e_s2_2, e_at3, e_s1_3, e_s2_3, e_at4, e_s1_4, e_s2_4, e_at5, e_s1_5, e_s2_5, e_at6, e_s1_6, e_s2_6, e_at7, e_s1_7, e_s2_7, e_at8, e_s1_8, e_s2_8, e_at9, e_s1_9, e_s2_9, e_at10, e_s1_10, e_s2_10, e_at11, e_s1_11, e_s2_11, e_at12, e_s1_12, e_s2_12, e_at13, e_s1_13, e_s2_13, e_kn, e_ki, e_kj, e_kd, e_kr, e_k0, e_lI, e_lJ, e_lD, e_lA, e_lA0, e_sI, e_sJ, e_sD, e_sA, e_sA0, e_inc, e_I2, e_I2z, e_I1, e_I2J, e_J2I, e_I2D, e_J2, e_lcmp, e_dcmp, e_ddiv, e_ifeq, e_iceq, e_ifne, e_icne, e_iflt, e_iclt, e_ifge, e_icge, e_ifgt, e_icgt, e_ifle, e_icle, e_ca, e_ca2, e_en, e_en0, e_sw, e_lk0, e_lk, e_dup, e_dup2, e_pop, e_ci, e_cj, e_cd, e_cr, e_c0, e_gf, e_gf2, e_gf3, e_pf, e_pf2, e_f0, e_f1, e_f2, e_f20, e_len, e_len2, e_al, e_al2, e_al3, e_alJ, e_alJ2, e_alJ3, e_alA, e_alA2, e_alA3, e_as, e_as2, e_as3, e_asB, e_asB2, e_asJ, e_asJ2, e_asJ3, e_asA, e_asA2, e_asA3, e_new, e_na, e_na2, e_cat0, e_cat1, e_tk0, e_tk1, e_tk2, e_tk3, e_tk4, e_tk5, e_tk6, e_tk7, e_tk8, e_cS, e_cS2, e_cI_0, e_cI_1, e_cI_2, e_cI_3, e_cI_4, e_cI_5, e_cI2, e_cV_0, e_cV_1, e_cV_2, e_cV_3, e_cV_4, e_cV_5, e_cV_6, e_cV_7, e_cV2, e_cV3, e_oi, e_cp, e_r0, e_r1, e_r2, e_r3, e_r4, e_r5, e_r6, e_r60, e_r7, e_W1, e_W2, e_A1, e_A2, e_Wg, e_Ag, e_rf0, e_rf1, e_len0, e_len1, e_vl0, e_vl1, z00, z10, z11, ↓reduceIte, List.getElem?_cons_zero, List.getElem?_cons_succ, List.set_cons_zero, List.set_cons_succ, and_true, true_and, and_self, or_true, true_or, or_false, false_or, Nat.reduceAdd, Nat.reduceSub, Nat.reduceLT, Nat.reduceLeDiff, Nat.reduceEqDiff, Nat.reduceBEq, beq_self_eq_true, Bool.or_false, Bool.false_or, Bool.or_true, Bool.true_or, not_true, not_false_eq_true, reduceCtorEq, s778_3, s778_4, s778_7, s778_10, s778_46, s778_47, s778_50, s778_53, s778_55, s778_58, s778_59, s778_62, s778_63, s778_66, s778_69, s778_70, s778_73, s778_76, s778_77, s778_80, s778_81, s778_82, s778_85, s778_86, s778_87, s778_90, s778_91, s778_94, rd_n, hrr, rd_p, hb, hpb, d_Pc, Int32.le_refl, hc, hd, cal (n774 _ _) (c_note (e := 4) (d := d - 1) H' (HD (cPc R))), cal (n771 _) (c_skip (d := d - 1) H' hI4 (by rw [n_At, d_At]; exact hat))]
  | succ m ih =>
    intro k hk
    have IH := ih (k + 1) (by omega)
    have hc : ¬ nI (cPc R) ≤ nI k := nI_ge (by omega) (by omega)
    have hk8 : k < 8 := by omega
    rw [cDup] at IH
    conv => lhs; rw [WP_eq, s778_2]
    by_cases h : cNs R k = v (cAt R)
    · rw [if_pos h] at IH
      simp only [WP_eq, e_go, e_none, e_ite, e_thr0, e_ret, e_thr, e_call, e_Kv, e_Kn, e_Kx, e_K2, e_K20, e_at0, e_s1_0, e_s2_0, e_at1, e_s1_1, e_s2_1, e_at2, e_s1_2, e_s2_2, e_at3, e_s1_3, e_s2_3, e_at4, e_s1_4, e_s2_4, e_at5, e_s1_5, e_s2_5, e_at6, e_s1_6, e_s2_6, e_at7, e_s1_7, e_s2_7, e_at8, e_s1_8, e_s2_8, e_at9, e_s1_9, e_s2_9, e_at10, e_s1_10, e_s2_10, e_at11, e_s1_11, e_s2_11, e_at12, e_s1_12, e_s2_12, e_at13, e_s1_13, e_s2_13, e_kn, e_ki, e_kj, e_kd, e_kr, e_k0, e_lI, e_lJ, e_lD, e_lA, e_lA0, e_sI, e_sJ, e_sD, e_sA, e_sA0, e_inc, e_I2, e_I2z, e_I1, e_I2J, e_J2I, e_I2D, e_J2, e_lcmp, e_dcmp, e_ddiv, e_ifeq, e_iceq, e_ifne, e_icne, e_iflt, e_iclt, e_ifge, e_icge, e_ifgt, e_icgt, e_ifle, e_icle, e_ca, e_ca2, e_en, e_en0, e_sw, e_lk0, e_lk, e_dup, e_dup2, e_pop, e_ci, e_cj, e_cd, e_cr, e_c0, e_gf, e_gf2, e_gf3, e_pf, e_pf2, e_f0, e_f1, e_f2, e_f20, e_len, e_len2, e_al, e_al2, e_al3, e_alJ, e_alJ2, e_alJ3, e_alA, e_alA2, e_alA3, e_as, e_as2, e_as3, e_asB, e_asB2, e_asJ, e_asJ2, e_asJ3, e_asA, e_asA2, e_asA3, e_new, e_na, e_na2, e_cat0, e_cat1, e_tk0, e_tk1, e_tk2, e_tk3, e_tk4, e_tk5, e_tk6, e_tk7, e_tk8, e_cS, e_cS2, e_cI_0, e_cI_1, e_cI_2, e_cI_3, e_cI_4, e_cI_5, e_cI2, e_cV_0, e_cV_1, e_cV_2, e_cV_3, e_cV_4, e_cV_5, e_cV_6, e_cV_7, e_cV2, e_cV3, e_oi, e_cp, e_r0, e_r1, e_r2, e_r3, e_r4, e_r5, e_r6, e_r60, e_r7, e_W1, e_W2, e_A1, e_A2, e_Wg, e_Ag, e_rf0, e_rf1, e_len0, e_len1, e_vl0, e_vl1, z00, z10, z11, ↓reduceIte, List.getElem?_cons_zero, List.getElem?_cons_succ, List.set_cons_zero, List.set_cons_succ, and_true, true_and, and_self, or_true, true_or, or_false, false_or, Nat.reduceAdd, Nat.reduceSub, Nat.reduceLT, Nat.reduceLeDiff, Nat.reduceEqDiff, Nat.reduceBEq, beq_self_eq_true, Bool.or_false, Bool.false_or, Bool.or_true, Bool.true_or, not_true, not_false_eq_true, reduceCtorEq, s778_3, s778_4, s778_7, s778_10, s778_13, s778_14, s778_17, s778_18, s778_19, s778_20, s778_23, s778_26, s778_27, s778_30, s778_31, s778_32, s778_35, s778_36, s778_37, s778_40, s778_43, rd_n, hrr, r1, r4, r5, rd_p, hb, hpb, hnm, u1, u4, d_Pc, d_At, d_Ns, i8 hk8, h4, hc, h, lgc, hd, cal (n774 _ _) (c_note (e := 2) (d := d - 1) H' (HD k)), nIi, stk IH]
    · rw [if_neg h] at IH
      simp only [WP_eq, e_go, e_none, e_ite, e_thr0, e_ret, e_thr, e_call, e_Kv, e_Kn, e_Kx, e_K2, e_K20, e_at0, e_s1_0, e_s2_0, e_at1, e_s1_1, e_s2_1, e_at2, e_s1_2, e_s2_2, e_at3, e_s1_3, e_s2_3, e_at4, e_s1_4, e_s2_4, e_at5, e_s1_5, e_s2_5, e_at6, e_s1_6, e_s2_6, e_at7, e_s1_7, e_s2_7, e_at8, e_s1_8, e_s2_8, e_at9, e_s1_9, e_s2_9, e_at10, e_s1_10, e_s2_10, e_at11, e_s1_11, e_s2_11, e_at12, e_s1_12, e_s2_12, e_at13, e_s1_13, e_s2_13, e_kn, e_ki, e_kj, e_kd, e_kr, e_k0, e_lI, e_lJ, e_lD, e_lA, e_lA0, e_sI, e_sJ, e_sD, e_sA, e_sA0, e_inc, e_I2, e_I2z, e_I1, e_I2J, e_J2I, e_I2D, e_J2, e_lcmp, e_dcmp, e_ddiv, e_ifeq, e_iceq, e_ifne, e_icne, e_iflt, e_iclt, e_ifge, e_icge, e_ifgt, e_icgt, e_ifle, e_icle, e_ca, e_ca2, e_en, e_en0, e_sw, e_lk0, e_lk, e_dup, e_dup2, e_pop, e_ci, e_cj, e_cd, e_cr, e_c0, e_gf, e_gf2, e_gf3, e_pf, e_pf2, e_f0, e_f1, e_f2, e_f20, e_len, e_len2, e_al, e_al2, e_al3, e_alJ, e_alJ2, e_alJ3, e_alA, e_alA2, e_alA3, e_as, e_as2, e_as3, e_asB, e_asB2, e_asJ, e_asJ2, e_asJ3, e_asA, e_asA2, e_asA3, e_new, e_na, e_na2, e_cat0, e_cat1, e_tk0, e_tk1, e_tk2, e_tk3, e_tk4, e_tk5, e_tk6, e_tk7, e_tk8, e_cS, e_cS2, e_cI_0, e_cI_1, e_cI_2, e_cI_3, e_cI_4, e_cI_5, e_cI2, e_cV_0, e_cV_1, e_cV_2, e_cV_3, e_cV_4, e_cV_5, e_cV_6, e_cV_7, e_cV2, e_cV3, e_oi, e_cp, e_r0, e_r1, e_r2, e_r3, e_r4, e_r5, e_r6, e_r60, e_r7, e_W1, e_W2, e_A1, e_A2, e_Wg, e_Ag, e_rf0, e_rf1, e_len0, e_len1, e_vl0, e_vl1, z00, z10, z11, ↓reduceIte, List.getElem?_cons_zero, List.getElem?_cons_succ, List.set_cons_zero, List.set_cons_succ, and_true, true_and, and_self, or_true, true_or, or_false, false_or, Nat.reduceAdd, Nat.reduceSub, Nat.reduceLT, Nat.reduceLeDiff, Nat.reduceEqDiff, Nat.reduceBEq, beq_self_eq_true, Bool.or_false, Bool.false_or, Bool.or_true, Bool.true_or, not_true, not_false_eq_true, reduceCtorEq, s778_3, s778_4, s778_7, s778_10, s778_13, s778_14, s778_17, s778_18, s778_19, s778_20, s778_23, s778_26, s778_27, s778_30, s778_31, s778_32, s778_35, s778_36, s778_37, s778_40, s778_43, rd_n, hrr, r1, r4, r5, rd_p, hb, hpb, hnm, u1, u4, d_Pc, d_At, d_Ns, i8 hk8, h4, hc, h, lgc, nIi, stk IH]
theorem c_newName {d : Nat} {σ : mxS} {r nm pb tk NT tp tkk tks tkv : Nat} {ep : Int32} {oaf : Nat → Option Nat} {kd : Nat → Nat} {v : Nat → Int64} {kk : Nat → Option Nat} {st : Nat → Int32} {R : RS} (H : rdC σ r nm pb tk oaf kd v NT tp tkk tks tkv kk st) (hR : cI NT R) (hd : 1 ≤ d) (hat : cAt R < NT) {Q : Option Value ⊕ Nat → mxS → Prop} : WP d 778 0 [some (.ref r), none] [] (rdW σ r nm pb tk ep oaf kd R) Q = Q (.inl none) (rdW σ r nm pb tk ep oaf kd (cSk (cNew v R))) := by
  have L := c_newL (ep := ep) (d := d) (Q := Q) H hR hd hat (cPc R) 0 (by omega)
  rw [cDup] at L
  simp only [WP_eq, e_go, e_none, e_ite, e_thr0, e_ret, e_thr, e_call, e_Kv, e_Kn, e_Kx, e_K2, e_K20, e_at0, e_s1_0, e_s2_0, e_at1, e_s1_1, e_s2_1, e_at2, e_s1_2, e_s2_2, e_at3, e_s1_3, e_s2_3, e_at4, e_s1_4, e_s2_4, e_at5, e_s1_5, e_s2_5, e_at6, e_s1_6, e_s2_6, e_at7, e_s1_7, e_s2_7, e_at8, e_s1_8, e_s2_8, e_at9, e_s1_9, e_s2_9, e_at10, e_s1_10, e_s2_10, e_at11, e_s1_11, e_s2_11, e_at12, e_s1_12, e_s2_12, e_at13, e_s1_13, e_s2_13, e_kn, e_ki, e_kj, e_kd, e_kr, e_k0, e_lI, e_lJ, e_lD, e_lA, e_lA0, e_sI, e_sJ, e_sD, e_sA, e_sA0, e_inc, e_I2, e_I2z, e_I1, e_I2J, e_J2I, e_I2D, e_J2, e_lcmp, e_dcmp, e_ddiv, e_ifeq, e_iceq, e_ifne, e_icne, e_iflt, e_iclt, e_ifge, e_icge, e_ifgt, e_icgt, e_ifle, e_icle, e_ca, e_ca2, e_en, e_en0, e_sw, e_lk0, e_lk, e_dup, e_dup2, e_pop, e_ci, e_cj, e_cd, e_cr, e_c0, e_gf, e_gf2, e_gf3, e_pf, e_pf2, e_f0, e_f1, e_f2, e_f20, e_len, e_len2, e_al, e_al2, e_al3, e_alJ, e_alJ2, e_alJ3, e_alA, e_alA2, e_alA3, e_as, e_as2, e_as3, e_asB, e_asB2, e_asJ, e_asJ2, e_asJ3, e_asA, e_asA2, e_asA3, e_new, e_na, e_na2, e_cat0, e_cat1, e_tk0, e_tk1, e_tk2, e_tk3, e_tk4, e_tk5, e_tk6, e_tk7, e_tk8, e_cS, e_cS2, e_cI_0, e_cI_1, e_cI_2, e_cI_3, e_cI_4, e_cI_5, e_cI2, e_cV_0, e_cV_1, e_cV_2, e_cV_3, e_cV_4, e_cV_5, e_cV_6, e_cV_7, e_cV2, e_cV3, e_oi, e_cp, e_r0, e_r1, e_r2, e_r3, e_r4, e_r5, e_r6, e_r60, e_r7, e_W1, e_W2, e_A1, e_A2, e_Wg, e_Ag, e_rf0, e_rf1, e_len0, e_len1, e_vl0, e_vl1, z00, z10, z11, ↓reduceIte, List.getElem?_cons_zero, List.getElem?_cons_succ, List.set_cons_zero, List.set_cons_succ, and_true, true_and, and_self, or_true, true_or, or_false, false_or, Nat.reduceAdd, Nat.reduceSub, Nat.reduceLT, Nat.reduceLeDiff, Nat.reduceEqDiff, Nat.reduceBEq, beq_self_eq_true, Bool.or_false, Bool.false_or, Bool.or_true, Bool.true_or, not_true, not_false_eq_true, reduceCtorEq, s778_0, s778_1, stk L]
