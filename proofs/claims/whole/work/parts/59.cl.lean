/-! ===== the class's reader along the grammar: lines ===== -/
/-- what may be done within a sum or a test -/
def eT (a : PA) : Prop := a.1 = 0 ∨ a.1 = 1 ∨ a.1 = 2 ∨ a.1 = 3 ∨ a.1 = 4 ∨ a.1 = 5 ∨ a.1 = 6 ∨ a.1 = 19 ∨ a.1 = 20
def pA (p : Nat → PR) : Prop := ∀ i, ∀ a, a ∈ (p i).2 → eT a
def aA (t : List PA) : Prop := ∀ a, a ∈ t → eT a
theorem aA_nil : aA [] := fun a h => by cases h
theorem aA_cons {a : PA} {t : List PA} (h : eT a) (ht : aA t) : aA (a :: t) := fun b hb => by
  rcases List.mem_cons.mp hb with rfl | hb
  · exact h
  · exact ht b hb
theorem aA_app {s t : List PA} (hs : aA s) (ht : aA t) : aA (s ++ t) := fun b hb => by
  rcases List.mem_append.mp hb with hb | hb
  · exact hs b hb
  · exact ht b hb
theorem eSk : eT aSk := Or.inl rfl
theorem eRole (r : Nat) : eT (aRole r) := Or.inr (Or.inl rfl)
theorem ePut (k : Nat) : eT (aPut k) := Or.inr (Or.inr (Or.inl rfl))
theorem eNum : eT aNum := Or.inr (Or.inr (Or.inr (Or.inl rfl)))
theorem eNam : eT aNam := Or.inr (Or.inr (Or.inr (Or.inr (Or.inl rfl))))
theorem eStep (k a b : Nat) : eT (aStep k a b) := Or.inr (Or.inr (Or.inr (Or.inr (Or.inr (Or.inl rfl)))))
theorem eLook : eT aLook := Or.inr (Or.inr (Or.inr (Or.inr (Or.inr (Or.inr (Or.inl rfl))))))
theorem eDeep : eT aDeep := Or.inr (Or.inr (Or.inr (Or.inr (Or.inr (Or.inr (Or.inr (Or.inl rfl)))))))
theorem eUp : eT aUp := Or.inr (Or.inr (Or.inr (Or.inr (Or.inr (Or.inr (Or.inr (Or.inr rfl)))))))
theorem a_seq {i : Nat} {a : PR} {f : Nat → PR} (ha : aA a.2) (hf : ∀ j, aA (f j).2) : aA (pSeq i a f).2 := by
  unfold pSeq
  split
  · exact aA_app ha (hf _)
  · exact ha
theorem a_take {kd : Nat → Nat} {k : Nat} (j : Nat) : aA (pTake kd k j).2 := by
  unfold pTake
  split
  · exact aA_cons eSk aA_nil
  · exact aA_nil
theorem a_name {kd : Nat → Nat} (j : Nat) : aA (pName kd j).2 := by
  unfold pName
  split
  · exact aA_cons eNam (aA_cons (eRole 4) (aA_cons eLook (aA_cons eSk aA_nil)))
  · exact aA_cons eNam (aA_cons (eRole 4) aA_nil)
def aAo (dp : Option (Nat → PR)) : Prop := ∀ f, dp = some f → ∀ j, aA (f j).2
theorem a_into {i : Nat} {dp : Option (Nat → PR)} {rest : Nat → PR} (hd : aAo dp) (hr : ∀ j, aA (rest j).2) : aA (pInto dp i rest).2 := by
  unfold pInto
  cases dp with
  | none => exact aA_nil
  | some f => exact a_seq (aA_cons eDeep (aA_cons eSk aA_nil)) (fun j => a_seq (hd f rfl j) hr)
theorem a_loop {kd : Nat → Nat} {k1 k2 : Nat} {part : Nat → PR} (hp : ∀ j, aA (part j).2) : ∀ m j, aA (pLoop kd k1 k2 part m j).2
  | 0, _ => aA_nil
  | m + 1, j => by
    rw [pLoop]
    split
    · exact a_seq (a_seq (aA_cons eSk aA_nil) (fun j => a_seq (hp j) (fun l => aA_cons (ePut _) (aA_cons (eStep _ _ _) aA_nil)))) (a_loop hp m)
    · exact aA_nil
theorem a_many {kd : Nat → Nat} {k1 k2 : Nat} {part : Nat → PR} (hp : ∀ j, aA (part j).2) (j : Nat) : aA (pMany kd k1 k2 part j).2 := a_seq (hp j) (fun l => a_loop hp _ l)
theorem a_value {kd : Nat → Nat} {vd sd : Option (Nat → PR)} (hv : aAo vd) (hs : aAo sd) (j : Nat) : aA (pValue kd vd sd j).2 := by
  unfold pValue
  split
  · exact aA_cons (ePut _) (aA_cons eNum (aA_cons (eStep _ _ _) (aA_cons eSk aA_nil)))
  · split
    · exact aA_cons (ePut _) (aA_cons (eStep _ _ _) (aA_cons eSk aA_nil))
    · split
      · exact a_seq (aA_cons (ePut _) (aA_cons eSk aA_nil)) (fun j => a_seq (a_take j) (fun l => a_seq (a_name l) (fun _ => aA_cons (eStep _ _ _) aA_nil)))
      · split
        · exact a_into hv (fun _ => aA_cons eUp (aA_cons (ePut _) (aA_cons (eStep _ _ _) aA_nil)))
        · split
          · exact a_into hs (fun j => a_seq (aA_cons eUp aA_nil) a_take)
          · split
            · refine a_seq (aA_cons eSk aA_nil) (fun j => ?_)
              split
              · exact a_into hs (fun l => a_seq (aA_cons (eStep _ _ _) (aA_cons eUp aA_nil)) (fun m => a_seq (a_take m) (fun _ => aA_cons (ePut _) aA_nil)))
              · exact aA_nil
            · split
              · refine a_seq (aA_cons eSk aA_nil) (fun j => ?_)
                split
                · refine a_into hs (fun l => a_seq (a_take l) (fun m => a_seq ?_ (fun q => a_seq (aA_cons (eStep _ _ _) (aA_cons eUp (aA_cons (ePut _) aA_nil))) a_take)))
                  cases sd with
                  | none => exact aA_nil
                  | some f => exact hs f rfl m
                · exact aA_nil
              · exact aA_nil
theorem a_lev {kd : Nat → Nat} : ∀ e, (∀ j, aA (pVal kd e j).2) ∧ ∀ j, aA (pSum kd e j).2
  | 0 => by
    have h : ∀ j, aA (pVal kd 0 j).2 := a_value (fun f z => by cases z) (fun f z => by cases z)
    exact ⟨h, a_many (a_many h)⟩
  | e + 1 => by
    have ih := a_lev (kd := kd) e
    have h : ∀ j, aA (pVal kd (e + 1) j).2 := a_value (fun f z => by rw [← Option.some.inj z]; exact ih.1) (fun f z => by rw [← Option.some.inj z]; exact ih.2)
    exact ⟨h, a_many (a_many h)⟩
theorem a_single {kd : Nat → Nat} {gd td : Option (Nat → PR)} {sum : Nat → PR} (hg : aAo gd) (ht : aAo td) (hs : ∀ j, aA (sum j).2) (j : Nat) : aA (pSingle kd gd td sum j).2 := by
  unfold pSingle
  split
  · exact a_into hg (fun _ => aA_cons eUp (aA_cons (ePut _) (aA_cons (eStep _ _ _) aA_nil)))
  · split
    · exact a_into ht (fun j => a_seq (aA_cons eUp aA_nil) a_take)
    · split
      · exact a_seq (aA_cons (ePut _) (aA_cons eSk aA_nil)) (fun j => a_seq (a_name j) (fun l => a_seq (a_name l) (fun _ => aA_cons (eStep _ _ _) aA_nil)))
      · split
        · exact a_seq (aA_cons eSk aA_nil) (fun j => a_seq (hs j) (fun _ => aA_cons (ePut _) (aA_cons (eStep _ _ _) aA_nil)))
        · refine a_seq (hs j) (fun j => ?_)
          split
          · exact a_seq (aA_cons eSk aA_nil) (fun l => a_seq (hs l) (fun _ => aA_cons (ePut _) (aA_cons (eStep _ _ _) aA_nil)))
          · exact aA_nil
theorem a_tev {kd : Nat → Nat} : ∀ e, (∀ j, aA (pSng kd e j).2) ∧ ∀ j, aA (pTst kd e j).2
  | 0 => by
    have h : ∀ j, aA (pSng kd 0 j).2 := a_single (fun f z => by cases z) (fun f z => by cases z) (a_lev 0).2
    exact ⟨h, a_many (a_many h)⟩
  | e + 1 => by
    have ih := a_tev (kd := kd) e
    have h : ∀ j, aA (pSng kd (e + 1) j).2 := a_single (fun f z => by rw [← Option.some.inj z]; exact ih.1) (fun f z => by rw [← Option.some.inj z]; exact ih.2) (a_lev (e + 1)).2
    exact ⟨h, a_many (a_many h)⟩
theorem fx_addS (k : Nat) (x y : Int32) (R : RS) : cM1 (cAddS k x y R) = cM1 R ∧ cM2 (cAddS k x y R) = cM2 R ∧ cPc (cAddS k x y R) = cPc R ∧ cNs (cAddS k x y R) = cNs R ∧ cOc (cAddS k x y R) = cOc R ∧ cTc (cAddS k x y R) = cTc R := by
  unfold cAddS
  split
  · exact ⟨rfl, rfl, rfl, rfl, rfl, rfl⟩
  · exact ⟨rfl, rfl, rfl, rfl, rfl, rfl⟩
theorem fx_step (v : Nat → Int64) (R : RS) {a : PA} (h : eT a) : cM1 (stepC v R a) = cM1 R ∧ cM2 (stepC v R a) = cM2 R ∧ cPc (stepC v R a) = cPc R ∧ cNs (stepC v R a) = cNs R ∧ cOc (stepC v R a) = cOc R ∧ cTc (stepC v R a) = cTc R := by
  obtain ⟨c, x, y, z⟩ := a
  rcases h with h | h | h | h | h | h | h | h | h <;> (have h' : c = _ := h; subst h')
  · exact ⟨rfl, rfl, rfl, rfl, rfl, rfl⟩
  · exact ⟨rfl, rfl, rfl, rfl, rfl, rfl⟩
  · exact ⟨rfl, rfl, rfl, rfl, rfl, rfl⟩
  · exact ⟨rfl, rfl, rfl, rfl, rfl, rfl⟩
  · exact ⟨rfl, rfl, rfl, rfl, rfl, rfl⟩
  · exact fx_addS ..
  · exact ⟨l_M1 .., l_M2 .., l_Pc .., l_Ns .., l_Oc .., l_Tc ..⟩
  · exact ⟨rfl, rfl, rfl, rfl, rfl, rfl⟩
  · exact ⟨rfl, rfl, rfl, rfl, rfl, rfl⟩
theorem fx_run (v : Nat → Int64) : ∀ (t : List PA) (R : RS), aA t → cM1 (runC v R t) = cM1 R ∧ cM2 (runC v R t) = cM2 R ∧ cPc (runC v R t) = cPc R ∧ cNs (runC v R t) = cNs R ∧ cOc (runC v R t) = cOc R ∧ cTc (runC v R t) = cTc R
  | [], R, _ => ⟨rfl, rfl, rfl, rfl, rfl, rfl⟩
  | a :: t, R, h => by
    have h1 := fx_step v R (h a (List.mem_cons_self ..))
    have h2 := fx_run v t (stepC v R a) (fun b hb => h b (List.mem_cons_of_mem _ hb))
    exact ⟨h2.1.trans h1.1, h2.2.1.trans h1.2.1, h2.2.2.1.trans h1.2.2.1, h2.2.2.2.1.trans h1.2.2.2.1, h2.2.2.2.2.1.trans h1.2.2.2.2.1, h2.2.2.2.2.2.trans h1.2.2.2.2.2⟩
theorem lkV_run (v : Nat → Int64) {t : List PA} (R : RS) (h : aA t) (a : Nat) : lkV v (runC v R t) a = lkV v R a := by
  have := fx_run v t R h
  unfold lkV
  rw [this.2.2.1, this.2.2.2.1]
theorem at_new (v : Nat → Int64) (R : RS) : cAt (cNew v R) = cAt R := at_step v aNew R
theorem at_rng (v : Nat → Int64) (z : Nat) (R : RS) : cAt (cRng v z R) = cAt R := at_step v (aRng z) R
theorem at_full (R : RS) : cAt (cFull R) = cAt R := at_step (fun _ => 0) aFull R
theorem at_roof (v : Nat → Int64) (R : RS) : cAt (cRoof v R) = cAt R := at_step v aRoof R
theorem c_side {d : Nat} {σ : mxS} {r nm pb tk NT tp tkk tks tkv : Nat} {ep : Int32} {oaf : Nat → Option Nat} {kd : Nat → Nat} {v : Nat → Int64} {kk : Nat → Option Nat} {st : Nat → Int32} (H : rdC σ r nm pb tk oaf kd v NT tp tkk tks tkv kk st) (hE : kd NT = 45 ∨ kd NT = 46) (hd : 2 ≤ d) : cP σ r nm pb tk NT ep oaf kd v d 782 [some (.ref r)] (pSide kd) := by
  intro R hR Q
  have hrr := fun R => rd_r (ep := ep) H R
  have hb := H.1.1.2
  have hd1 : 1 ≤ d := by omega
  have hdm1 : 1 ≤ d - 1 := by omega
  unfold pSide
  by_cases h8 : kd (cAt R) = 8
  · have hT := fun Q => c_take1 (Q := Q) (ep := ep) (k := 8) (d := d - 1) H hR hdm1 (by decide) h8 (k_no hE hR h8 (by decide))
    rw [if_pos (Or.inl h8)]
    simp only [WP_eq, e_go, e_none, e_ite, e_thr0, e_ret, e_thr, e_call, e_Kv, e_Kn, e_Kx, e_K2, e_K20, e_at0, e_s1_0, e_s2_0, e_at1, e_s1_1, e_s2_1, e_at2, e_s1_2, e_s2_2, e_at3, e_s1_3, e_s2_3, e_at4, e_s1_4, e_s2_4, e_at5, e_s1_5, e_s2_5, e_at6, e_s1_6, e_s2_6, e_at7, e_s1_7, e_s2_7, e_at8, e_s1_8, e_s2_8, e_at9, e_s1_9, e_s2_9, e_at10, e_s1_10, e_s2_10, e_at11, e_s1_11, e_s2_11, e_at12, e_s1_12, e_s2_12, e_at13, e_s1_13, e_s2_13, e_kn, e_ki, e_kj, e_kd, e_kr, e_k0, e_lI, e_lJ, e_lD, e_lA, e_lA0, e_sI, e_sJ, e_sD, e_sA, e_sA0, e_inc, e_I2, e_I2z, e_I1, e_I2J, e_J2I, e_I2D, e_J2, e_lcmp, e_dcmp, e_ddiv, e_ifeq, e_iceq, e_ifne, e_icne, e_iflt, e_iclt, e_ifge, e_icge, e_ifgt, e_icgt, e_ifle, e_icle, e_ca, e_ca2, e_en, e_en0, e_sw, e_lk0, e_lk, e_dup, e_dup2, e_pop, e_ci, e_cj, e_cd, e_cr, e_c0, e_gf, e_gf2, e_gf3, e_pf, e_pf2, e_f0, e_f1, e_f2, e_f20, e_len, e_len2, e_al, e_al2, e_al3, e_alJ, e_alJ2, e_alJ3, e_alA, e_alA2, e_alA3, e_as, e_as2, e_as3, e_asB, e_asB2, e_asJ, e_asJ2, e_asJ3, e_asA, e_asA2, e_asA3, e_new, e_na, e_na2, e_cat0, e_cat1, e_tk0, e_tk1, e_tk2, e_tk3, e_tk4, e_tk5, e_tk6, e_tk7, e_tk8, e_cS, e_cS2, e_cI_0, e_cI_1, e_cI_2, e_cI_3, e_cI_4, e_cI_5, e_cI2, e_cV_0, e_cV_1, e_cV_2, e_cV_3, e_cV_4, e_cV_5, e_cV_6, e_cV_7, e_cV2, e_cV3, e_oi, e_cp, e_r0, e_r1, e_r2, e_r3, e_r4, e_r5, e_r6, e_r60, e_r7, e_W1, e_W2, e_A1, e_A2, e_Wg, e_Ag, e_rf0, e_rf1, e_len0, e_len1, e_vl0, e_vl1, z00, z10, z11, ↓reduceIte, List.getElem?_cons_zero, List.getElem?_cons_succ, List.set_cons_zero, List.set_cons_succ, and_true, true_and, and_self, or_true, true_or, or_false, false_or, Nat.reduceAdd, Nat.reduceSub, Nat.reduceLT, Nat.reduceLeDiff, Nat.reduceEqDiff, Nat.reduceBEq, beq_self_eq_true, Bool.or_false, Bool.false_or, Bool.or_true, Bool.true_or, not_true, not_false_eq_true, reduceCtorEq, s782_0, s782_1, s782_4, s782_7, s782_10, s782_11, s782_14, s782_17, s782_20, s782_21, s782_24, s782_25, rd_n, hrr, hb, hd1, cal (n772 _ _) (hT _), pOk, bI_t, runC_nil, runC_app, r_Sk, r_Role, r_Put, r_Num, r_Nam, r_Step, r_Look, r_Roof, r_New, r_Rng, r_Pig, r_Full, r_Ord, r_M1, r_M2, r_OB, r_OR, r_OT, r_OE, r_Deep, r_Up, List.cons_append, List.nil_append]
  · have hT := fun Q => c_take0 (Q := Q) (ep := ep) (k := 8) (d := d - 1) H hR hdm1 (by decide) h8
    by_cases h9 : kd (cAt R) = 9
    · have hT2 := fun Q => c_take1 (Q := Q) (ep := ep) (k := 9) (d := d - 1) H hR hdm1 (by decide) h9 (k_no hE hR h9 (by decide))
      rw [if_pos (Or.inr h9)]
      simp only [WP_eq, e_go, e_none, e_ite, e_thr0, e_ret, e_thr, e_call, e_Kv, e_Kn, e_Kx, e_K2, e_K20, e_at0, e_s1_0, e_s2_0, e_at1, e_s1_1, e_s2_1, e_at2, e_s1_2, e_s2_2, e_at3, e_s1_3, e_s2_3, e_at4, e_s1_4, e_s2_4, e_at5, e_s1_5, e_s2_5, e_at6, e_s1_6, e_s2_6, e_at7, e_s1_7, e_s2_7, e_at8, e_s1_8, e_s2_8, e_at9, e_s1_9, e_s2_9, e_at10, e_s1_10, e_s2_10, e_at11, e_s1_11, e_s2_11, e_at12, e_s1_12, e_s2_12, e_at13, e_s1_13, e_s2_13, e_kn, e_ki, e_kj, e_kd, e_kr, e_k0, e_lI, e_lJ, e_lD, e_lA, e_lA0, e_sI, e_sJ, e_sD, e_sA, e_sA0, e_inc, e_I2, e_I2z, e_I1, e_I2J, e_J2I, e_I2D, e_J2, e_lcmp, e_dcmp, e_ddiv, e_ifeq, e_iceq, e_ifne, e_icne, e_iflt, e_iclt, e_ifge, e_icge, e_ifgt, e_icgt, e_ifle, e_icle, e_ca, e_ca2, e_en, e_en0, e_sw, e_lk0, e_lk, e_dup, e_dup2, e_pop, e_ci, e_cj, e_cd, e_cr, e_c0, e_gf, e_gf2, e_gf3, e_pf, e_pf2, e_f0, e_f1, e_f2, e_f20, e_len, e_len2, e_al, e_al2, e_al3, e_alJ, e_alJ2, e_alJ3, e_alA, e_alA2, e_alA3, e_as, e_as2, e_as3, e_asB, e_asB2, e_asJ, e_asJ2, e_asJ3, e_asA, e_asA2, e_asA3, e_new, e_na, e_na2, e_cat0, e_cat1, e_tk0, e_tk1, e_tk2, e_tk3, e_tk4, e_tk5, e_tk6, e_tk7, e_tk8, e_cS, e_cS2, e_cI_0, e_cI_1, e_cI_2, e_cI_3, e_cI_4, e_cI_5, e_cI2, e_cV_0, e_cV_1, e_cV_2, e_cV_3, e_cV_4, e_cV_5, e_cV_6, e_cV_7, e_cV2, e_cV3, e_oi, e_cp, e_r0, e_r1, e_r2, e_r3, e_r4, e_r5, e_r6, e_r60, e_r7, e_W1, e_W2, e_A1, e_A2, e_Wg, e_Ag, e_rf0, e_rf1, e_len0, e_len1, e_vl0, e_vl1, z00, z10, z11, ↓reduceIte, List.getElem?_cons_zero, List.getElem?_cons_succ, List.set_cons_zero, List.set_cons_succ, and_true, true_and, and_self, or_true, true_or, or_false, false_or, Nat.reduceAdd, Nat.reduceSub, Nat.reduceLT, Nat.reduceLeDiff, Nat.reduceEqDiff, Nat.reduceBEq, beq_self_eq_true, Bool.or_false, Bool.false_or, Bool.or_true, Bool.true_or, not_true, not_false_eq_true, reduceCtorEq, s782_0, s782_1, s782_4, s782_7, s782_10, s782_11, s782_14, s782_17, s782_20, s782_21, s782_24, s782_25, rd_n, hrr, hb, hd1, cal (n772 _ _) (hT _), cal (n772 _ _) (hT2 _), pOk, bI_t, runC_nil, runC_app, r_Sk, r_Role, r_Put, r_Num, r_Nam, r_Step, r_Look, r_Roof, r_New, r_Rng, r_Pig, r_Full, r_Ord, r_M1, r_M2, r_OB, r_OR, r_OT, r_OE, r_Deep, r_Up, List.cons_append, List.nil_append]
    · have hT2 := fun Q => c_take0 (Q := Q) (ep := ep) (k := 9) (d := d - 1) H hR hdm1 (by decide) h9
      rw [if_neg (fun z => z.elim h8 h9)]
      simp only [WP_eq, e_go, e_none, e_ite, e_thr0, e_ret, e_thr, e_call, e_Kv, e_Kn, e_Kx, e_K2, e_K20, e_at0, e_s1_0, e_s2_0, e_at1, e_s1_1, e_s2_1, e_at2, e_s1_2, e_s2_2, e_at3, e_s1_3, e_s2_3, e_at4, e_s1_4, e_s2_4, e_at5, e_s1_5, e_s2_5, e_at6, e_s1_6, e_s2_6, e_at7, e_s1_7, e_s2_7, e_at8, e_s1_8, e_s2_8, e_at9, e_s1_9, e_s2_9, e_at10, e_s1_10, e_s2_10, e_at11, e_s1_11, e_s2_11, e_at12, e_s1_12, e_s2_12, e_at13, e_s1_13, e_s2_13, e_kn, e_ki, e_kj, e_kd, e_kr, e_k0, e_lI, e_lJ, e_lD, e_lA, e_lA0, e_sI, e_sJ, e_sD, e_sA, e_sA0, e_inc, e_I2, e_I2z, e_I1, e_I2J, e_J2I, e_I2D, e_J2, e_lcmp, e_dcmp, e_ddiv, e_ifeq, e_iceq, e_ifne, e_icne, e_iflt, e_iclt, e_ifge, e_icge, e_ifgt, e_icgt, e_ifle, e_icle, e_ca, e_ca2, e_en, e_en0, e_sw, e_lk0, e_lk, e_dup, e_dup2, e_pop, e_ci, e_cj, e_cd, e_cr, e_c0, e_gf, e_gf2, e_gf3, e_pf, e_pf2, e_f0, e_f1, e_f2, e_f20, e_len, e_len2, e_al, e_al2, e_al3, e_alJ, e_alJ2, e_alJ3, e_alA, e_alA2, e_alA3, e_as, e_as2, e_as3, e_asB, e_asB2, e_asJ, e_asJ2, e_asJ3, e_asA, e_asA2, e_asA3, e_new, e_na, e_na2, e_cat0, e_cat1, e_tk0, e_tk1, e_tk2, e_tk3, e_tk4, e_tk5, e_tk6, e_tk7, e_tk8, e_cS, e_cS2, e_cI_0, e_cI_1, e_cI_2, e_cI_3, e_cI_4, e_cI_5, e_cI2, e_cV_0, e_cV_1, e_cV_2, e_cV_3, e_cV_4, e_cV_5, e_cV_6, e_cV_7, e_cV2, e_cV3, e_oi, e_cp, e_r0, e_r1, e_r2, e_r3, e_r4, e_r5, e_r6, e_r60, e_r7, e_W1, e_W2, e_A1, e_A2, e_Wg, e_Ag, e_rf0, e_rf1, e_len0, e_len1, e_vl0, e_vl1, z00, z10, z11, ↓reduceIte, List.getElem?_cons_zero, List.getElem?_cons_succ, List.set_cons_zero, List.set_cons_succ, and_true, true_and, and_self, or_true, true_or, or_false, false_or, Nat.reduceAdd, Nat.reduceSub, Nat.reduceLT, Nat.reduceLeDiff, Nat.reduceEqDiff, Nat.reduceBEq, beq_self_eq_true, Bool.or_false, Bool.false_or, Bool.or_true, Bool.true_or, not_true, not_false_eq_true, reduceCtorEq, s782_0, s782_1, s782_4, s782_7, s782_10, s782_11, s782_14, s782_17, s782_20, s782_21, s782_24, s782_25, rd_n, hrr, hb, hd1, cal (n772 _ _) (hT _), cal (n772 _ _) (hT2 _), pNo, bI_f, runC_nil, runC_app, r_Sk, r_Role, r_Put, r_Num, r_Nam, r_Step, r_Look, r_Roof, r_New, r_Rng, r_Pig, r_Full, r_Ord, r_M1, r_M2, r_OB, r_OR, r_OT, r_OE, r_Deep, r_Up, List.cons_append, List.nil_append]
theorem c_pig {d : Nat} {σ : mxS} {r nm pb tk NT tp tkk tks tkv : Nat} {ep : Int32} {oaf : Nat → Option Nat} {kd : Nat → Nat} {v : Nat → Int64} {kk : Nat → Option Nat} {st : Nat → Int32} (H : rdC σ r nm pb tk oaf kd v NT tp tkk tks tkv kk st) (hE : kd NT = 45 ∨ kd NT = 46) (hd : 3 ≤ d) : ∀ R, cI NT R → kd (cAt R) = 1 → ∀ {Q : Option Value ⊕ Nat → mxS → Prop}, WP d 777 0 [some (.ref r), none] [] (rdW σ r nm pb tk ep oaf kd R) Q = Q (.inl (some (.int (bI (pPig kd (cAt R)).1)))) (rdW σ r nm pb tk ep oaf kd (runC v R (pPig kd (cAt R)).2)) := by
  intro R hR h1 Q
  have hrr := fun R => rd_r (ep := ep) H R
  have hb := H.1.1.2
  have hpb : pb < 1000 + σ.2.1 := Nat.lt_of_lt_of_le (Nat.lt_add_of_pos_right (by decide : 0 < 24)) H.1.2.2.2.2.2.2
  have hd1 : 1 ≤ d := by omega
  have hdm1 : 1 ≤ d - 1 := by omega
  have hlt := k_no hE hR h1 (by decide)
  have hI1 := cI_sk hR hlt
  have a1 : cAt (cSk R) = cAt R + 1 := rfl
  have k1 := kd47 (ep := ep) H hI1
  by_cases h2 : kd (cAt R + 1) = 43
  · have hlt1 : cAt (cSk R) < NT := k_no hE hI1 (k := 43) h2 (by decide)
    have hI1' : cI NT (cNew v (cSk R)) := cI_step (a := aNew) hI1 (fun z => by cases z)
    have hI2 := cI_sk hI1' (by rw [at_new]; exact hlt1)
    have a2 : cAt (cSk (cNew v (cSk R))) = cAt R + 2 := congrArg (· + 1) (at_new v (cSk R))
    generalize hR2 : cSk (cNew v (cSk R)) = R2 at *
    by_cases h3 : kd (cAt R + 2) = 2
    · have hlt2 : cAt R2 < NT := k_no hE hI2 (k := 2) (by rw [a2]; exact h3) (by decide)
      have hT := fun Q => c_take1 (Q := Q) (ep := ep) (k := 2) (d := d - 1) H hI2 hdm1 (by decide) (by rw [a2]; exact h3) hlt2
      have hI3 := cI_sk hI2 hlt2
      have a3 : cAt (cSk R2) = cAt R + 3 := congrArg (· + 1) a2
      generalize hR3 : cSk R2 = R3 at *
      have k3 := kd47 (ep := ep) H hI3
      by_cases h4 : kd (cAt R + 3) = 44
      · have h4' : kd (cAt R3) = 44 := by rw [a3]; exact h4
        have hlt3 : cAt R3 < NT := k_no hE hI3 h4' (by decide)
        have hI4' : cI NT (cRng v 0 R3) := cI_step (a := aRng 0) hI3 (fun z => by cases z)
        have hI4 := cI_sk hI4' (by rw [at_rng]; exact hlt3)
        have hN := fun Q => c_number (Q := Q) (ep := ep) (lo := nI 0) (hi := nI (cTc R3) - nI 1) (d := d - 1) H hI3 hdm1 hlt3
        have a4 : cAt (cSk (cRng v 0 R3)) = cAt R + 4 := (congrArg (· + 1) (at_rng v 0 R3)).trans (congrArg (· + 1) a3)
        have eR : cRng1 (v (cAt R3)).toInt32 (nI 0) (nI (cTc R3) - nI 1) R3 = cRng v 0 R3 := rfl
        simp only [eR] at hN
        simp only [a3] at hN
        generalize hR4 : cSk (cRng v 0 R3) = R4 at *
        by_cases h5 : kd (cAt R + 4) = 3
        · have hlt4 : cAt R4 < NT := k_no hE hI4 (k := 3) (by rw [a4]; exact h5) (by decide)
          have hT2 := fun Q => c_take1 (Q := Q) (ep := ep) (k := 3) (d := d - 1) H hI4 hdm1 (by decide) (by rw [a4]; exact h5) hlt4
          have hI5 := cI_sk hI4 hlt4
          have a5 : cAt (cSk R4) = cAt R + 5 := congrArg (· + 1) a4
          generalize hR5 : cSk R4 = R5 at *
          have k5 := kd47 (ep := ep) H hI5
          by_cases h6 : kd (cAt R + 5) = 44
          · have h6' : kd (cAt R5) = 44 := by rw [a5]; exact h6
            have hlt5 : cAt R5 < NT := k_no hE hI5 h6' (by decide)
            have hI6' : cI NT (cRng v 1 R5) := cI_step (a := aRng 1) hI5 (fun z => by cases z)
            have hI6 := cI_sk hI6' (by rw [at_rng]; exact hlt5)
            have hN2 := fun Q => c_number (Q := Q) (ep := ep) (lo := nI 1) (hi := nI 9) (d := d - 1) H hI5 hdm1 hlt5
            have eR2 : cRng1 (v (cAt R5)).toInt32 (nI 1) (nI 9) R5 = cRng v 1 R5 := rfl
            simp only [eR2] at hN2
            simp only [a5] at hN2
            have eP : pPig kd (cAt R) = (true, [aSk, aRole 1, aNew, aSk, aSk, aRole 6, aRng 0, aSk, aSk, aRole 7, aRng 1, aSk, aPig (cAt R + 3) (cAt R + 5)]) := by
              simp [pPig, pTake, pAs, pSeq, pOk, pNo, skN, aSk, aRole, aNew, aRng, h1, h2, h3, h4, h5, h6, Nat.add_assoc]
            have eA : ∀ R', cPig v (cAt R + 3) (cAt R + 5) R' = cAddP (v (cAt R + 3)).toInt32 (v (cAt R + 5)).toInt32 R' := fun R' => rfl
            rw [eP]
            simp only [WP_eq, e_go, e_none, e_ite, e_thr0, e_ret, e_thr, e_call, e_Kv, e_Kn, e_Kx, e_K2, e_K20, e_at0, e_s1_0, e_s2_0, e_at1, e_s1_1, e_s2_1, e_at2, e_s1_2, e_s2_2, e_at3, e_s1_3, e_s2_3, e_at4, e_s1_4, e_s2_4, e_at5, e_s1_5, e_s2_5, e_at6, e_s1_6, e_s2_6, e_at7, e_s1_7, e_s2_7, e_at8, e_s1_8, e_s2_8, e_at9, e_s1_9, e_s2_9, e_at10, e_s1_10, e_s2_10, e_at11, e_s1_11, e_s2_11, e_at12, e_s1_12, e_s2_12, e_at13, e_s1_13, e_s2_13, e_kn, e_ki, e_kj, e_kd, e_kr, e_k0, e_lI, e_lJ, e_lD, e_lA, e_lA0, e_sI, e_sJ, e_sD, e_sA, e_sA0, e_inc, e_I2, e_I2z, e_I1, e_I2J, e_J2I, e_I2D, e_J2, e_lcmp, e_dcmp, e_ddiv, e_ifeq, e_iceq, e_ifne, e_icne, e_iflt, e_iclt, e_ifge, e_icge, e_ifgt, e_icgt, e_ifle, e_icle, e_ca, e_ca2, e_en, e_en0, e_sw, e_lk0, e_lk, e_dup, e_dup2, e_pop, e_ci, e_cj, e_cd, e_cr, e_c0, e_gf, e_gf2, e_gf3, e_pf, e_pf2, e_f0, e_f1, e_f2, e_f20, e_len, e_len2, e_al, e_al2, e_al3, e_alJ, e_alJ2, e_alJ3, e_alA, e_alA2, e_alA3, e_as, e_as2, e_as3, e_asB, e_asB2, e_asJ, e_asJ2, e_asJ3, e_asA, e_asA2, e_asA3, e_new, e_na, e_na2, e_cat0, e_cat1, e_tk0, e_tk1, e_tk2, e_tk3, e_tk4, e_tk5, e_tk6, e_tk7, e_tk8, e_cS, e_cS2, e_cI_0, e_cI_1, e_cI_2, e_cI_3, e_cI_4, e_cI_5, e_cI2, e_cV_0, e_cV_1, e_cV_2, e_cV_3, e_cV_4, e_cV_5, e_cV_6, e_cV_7, e_cV2, e_cV3, e_oi, e_cp, e_r0, e_r1, e_r2, e_r3, e_r4, e_r5, e_r6, e_r60, e_r7, e_W1, e_W2, e_A1, e_A2, e_Wg, e_Ag, e_rf0, e_rf1, e_len0, e_len1, e_vl0, e_vl1, z00, z10, z11, ↓reduceIte, List.getElem?_cons_zero, List.getElem?_cons_succ, List.set_cons_zero, List.set_cons_succ, and_true, true_and, and_self, or_true, true_or, or_false, false_or, Nat.reduceAdd, Nat.reduceSub, Nat.reduceLT, Nat.reduceLeDiff, Nat.reduceEqDiff, Nat.reduceBEq, beq_self_eq_true, Bool.or_false, Bool.false_or, Bool.or_true, Bool.true_or, not_true, not_false_eq_true, reduceCtorEq, s777_0, s777_1, s777_4, s777_5, s777_8, s777_11, s777_14, s777_15, s777_16, s777_17, s777_20, s777_21, s777_24, s777_27, s777_30, s777_31, s777_34, s777_37, s777_40, s777_41, s777_42, s777_43, s777_44, s777_45, s777_48, s777_51, s777_52, s777_53, s777_56, s777_57, s777_58, s777_61, s777_64, s777_67, s777_68, s777_71, s777_74, s777_77, s777_78, s777_79, s777_80, s777_83, s777_84, s777_85, s777_86, s777_88, s777_91, s777_94, s777_95, rd_n, hrr, rd_p, hpb, hb, a1, h2, h4', h6', show 43 < 47 by decide, show 44 < 47 by decide, decide_true, Bool.true_eq_false, hd1, cal (n771 _) (c_skip (d := d - 1) H hR hlt), cal (n778 _) (c_newName (d := d - 1) H hI1 hdm1 hlt1), hR2, cal (n772 _ _) (hT _), hR3, cal (n779 _ _ _) (hN _), hR4, cal (n772 _ _) (hT2 _), hR5, cal (n779 _ _ _) (hN2 _), cal (n515 _ _ _) (c_addPigeon (d := d - 1) H hI6), bI_t, eA, runC_nil, runC_app, r_Sk, r_Role, r_Put, r_Num, r_Nam, r_Step, r_Look, r_Roof, r_New, r_Rng, r_Pig, r_Full, r_Ord, r_M1, r_M2, r_OB, r_OR, r_OT, r_OE, r_Deep, r_Up, List.cons_append, List.nil_append]
          · have h6' : ¬ kd (cAt R5) = 44 := by rw [a5]; exact h6
            have eP : pPig kd (cAt R) = (false, [aSk, aRole 1, aNew, aSk, aSk, aRole 6, aRng 0, aSk, aSk, aRole 7]) := by
              simp [pPig, pTake, pAs, pSeq, pOk, pNo, skN, aSk, aRole, aNew, aRng, h1, h2, h3, h4, h5, h6, Nat.add_assoc]
            rw [eP]
            simp only [WP_eq, e_go, e_none, e_ite, e_thr0, e_ret, e_thr, e_call, e_Kv, e_Kn, e_Kx, e_K2, e_K20, e_at0, e_s1_0, e_s2_0, e_at1, e_s1_1, e_s2_1, e_at2, e_s1_2, e_s2_2, e_at3, e_s1_3, e_s2_3, e_at4, e_s1_4, e_s2_4, e_at5, e_s1_5, e_s2_5, e_at6, e_s1_6, e_s2_6, e_at7, e_s1_7, e_s2_7, e_at8, e_s1_8, e_s2_8, e_at9, e_s1_9, e_s2_9, e_at10, e_s1_10, e_s2_10, e_at11, e_s1_11, e_s2_11, e_at12, e_s1_12, e_s2_12, e_at13, e_s1_13, e_s2_13, e_kn, e_ki, e_kj, e_kd, e_kr, e_k0, e_lI, e_lJ, e_lD, e_lA, e_lA0, e_sI, e_sJ, e_sD, e_sA, e_sA0, e_inc, e_I2, e_I2z, e_I1, e_I2J, e_J2I, e_I2D, e_J2, e_lcmp, e_dcmp, e_ddiv, e_ifeq, e_iceq, e_ifne, e_icne, e_iflt, e_iclt, e_ifge, e_icge, e_ifgt, e_icgt, e_ifle, e_icle, e_ca, e_ca2, e_en, e_en0, e_sw, e_lk0, e_lk, e_dup, e_dup2, e_pop, e_ci, e_cj, e_cd, e_cr, e_c0, e_gf, e_gf2, e_gf3, e_pf, e_pf2, e_f0, e_f1, e_f2, e_f20, e_len, e_len2, e_al, e_al2, e_al3, e_alJ, e_alJ2, e_alJ3, e_alA, e_alA2, e_alA3, e_as, e_as2, e_as3, e_asB, e_asB2, e_asJ, e_asJ2, e_asJ3, e_asA, e_asA2, e_asA3, e_new, e_na, e_na2, e_cat0, e_cat1, e_tk0, e_tk1, e_tk2, e_tk3, e_tk4, e_tk5, e_tk6, e_tk7, e_tk8, e_cS, e_cS2, e_cI_0, e_cI_1, e_cI_2, e_cI_3, e_cI_4, e_cI_5, e_cI2, e_cV_0, e_cV_1, e_cV_2, e_cV_3, e_cV_4, e_cV_5, e_cV_6, e_cV_7, e_cV2, e_cV3, e_oi, e_cp, e_r0, e_r1, e_r2, e_r3, e_r4, e_r5, e_r6, e_r60, e_r7, e_W1, e_W2, e_A1, e_A2, e_Wg, e_Ag, e_rf0, e_rf1, e_len0, e_len1, e_vl0, e_vl1, z00, z10, z11, ↓reduceIte, List.getElem?_cons_zero, List.getElem?_cons_succ, List.set_cons_zero, List.set_cons_succ, and_true, true_and, and_self, or_true, true_or, or_false, false_or, Nat.reduceAdd, Nat.reduceSub, Nat.reduceLT, Nat.reduceLeDiff, Nat.reduceEqDiff, Nat.reduceBEq, beq_self_eq_true, Bool.or_false, Bool.false_or, Bool.or_true, Bool.true_or, not_true, not_false_eq_true, reduceCtorEq, s777_0, s777_1, s777_4, s777_5, s777_8, s777_11, s777_14, s777_15, s777_16, s777_17, s777_20, s777_21, s777_24, s777_27, s777_30, s777_31, s777_34, s777_37, s777_40, s777_41, s777_42, s777_43, s777_44, s777_45, s777_48, s777_51, s777_52, s777_53, s777_56, s777_57, s777_58, s777_61, s777_64, s777_67, s777_68, s777_71, s777_74, s777_77, s777_78, s777_79, s777_80, s777_83, s777_84, s777_85, s777_86, s777_88, s777_91, s777_94, s777_95, rd_n, hrr, rd_p, hpb, hb, a1, h2, h4', h6', k5, show 43 < 47 by decide, show 44 < 47 by decide, Option.some.injEq, decide_true, decide_false, Bool.true_eq_false, Bool.false_eq_true, hd1, cal (n771 _) (c_skip (d := d - 1) H hR hlt), cal (n778 _) (c_newName (d := d - 1) H hI1 hdm1 hlt1), hR2, cal (n772 _ _) (hT _), hR3, cal (n779 _ _ _) (hN _), hR4, cal (n772 _ _) (hT2 _), hR5, bI_f, runC_nil, runC_app, r_Sk, r_Role, r_Put, r_Num, r_Nam, r_Step, r_Look, r_Roof, r_New, r_Rng, r_Pig, r_Full, r_Ord, r_M1, r_M2, r_OB, r_OR, r_OT, r_OE, r_Deep, r_Up, List.cons_append, List.nil_append]
        · have hT2 := fun Q => c_take0 (Q := Q) (ep := ep) (k := 3) (d := d - 1) H hI4 hdm1 (by decide) (by rw [a4]; exact h5)
          have eP : pPig kd (cAt R) = (false, [aSk, aRole 1, aNew, aSk, aSk, aRole 6, aRng 0, aSk]) := by
            simp [pPig, pTake, pAs, pSeq, pOk, pNo, skN, aSk, aRole, aNew, aRng, h1, h2, h3, h4, h5, Nat.add_assoc]
          rw [eP]
          simp only [WP_eq, e_go, e_none, e_ite, e_thr0, e_ret, e_thr, e_call, e_Kv, e_Kn, e_Kx, e_K2, e_K20, e_at0, e_s1_0, e_s2_0, e_at1, e_s1_1, e_s2_1, e_at2, e_s1_2, e_s2_2, e_at3, e_s1_3, e_s2_3, e_at4, e_s1_4, e_s2_4, e_at5, e_s1_5, e_s2_5, e_at6, e_s1_6, e_s2_6, e_at7, e_s1_7, e_s2_7, e_at8, e_s1_8, e_s2_8, e_at9, e_s1_9, e_s2_9, e_at10, e_s1_10, e_s2_10, e_at11, e_s1_11, e_s2_11, e_at12, e_s1_12, e_s2_12, e_at13, e_s1_13, e_s2_13, e_kn, e_ki, e_kj, e_kd, e_kr, e_k0, e_lI, e_lJ, e_lD, e_lA, e_lA0, e_sI, e_sJ, e_sD, e_sA, e_sA0, e_inc, e_I2, e_I2z, e_I1, e_I2J, e_J2I, e_I2D, e_J2, e_lcmp, e_dcmp, e_ddiv, e_ifeq, e_iceq, e_ifne, e_icne, e_iflt, e_iclt, e_ifge, e_icge, e_ifgt, e_icgt, e_ifle, e_icle, e_ca, e_ca2, e_en, e_en0, e_sw, e_lk0, e_lk, e_dup, e_dup2, e_pop, e_ci, e_cj, e_cd, e_cr, e_c0, e_gf, e_gf2, e_gf3, e_pf, e_pf2, e_f0, e_f1, e_f2, e_f20, e_len, e_len2, e_al, e_al2, e_al3, e_alJ, e_alJ2, e_alJ3, e_alA, e_alA2, e_alA3, e_as, e_as2, e_as3, e_asB, e_asB2, e_asJ, e_asJ2, e_asJ3, e_asA, e_asA2, e_asA3, e_new, e_na, e_na2, e_cat0, e_cat1, e_tk0, e_tk1, e_tk2, e_tk3, e_tk4, e_tk5, e_tk6, e_tk7, e_tk8, e_cS, e_cS2, e_cI_0, e_cI_1, e_cI_2, e_cI_3, e_cI_4, e_cI_5, e_cI2, e_cV_0, e_cV_1, e_cV_2, e_cV_3, e_cV_4, e_cV_5, e_cV_6, e_cV_7, e_cV2, e_cV3, e_oi, e_cp, e_r0, e_r1, e_r2, e_r3, e_r4, e_r5, e_r6, e_r60, e_r7, e_W1, e_W2, e_A1, e_A2, e_Wg, e_Ag, e_rf0, e_rf1, e_len0, e_len1, e_vl0, e_vl1, z00, z10, z11, ↓reduceIte, List.getElem?_cons_zero, List.getElem?_cons_succ, List.set_cons_zero, List.set_cons_succ, and_true, true_and, and_self, or_true, true_or, or_false, false_or, Nat.reduceAdd, Nat.reduceSub, Nat.reduceLT, Nat.reduceLeDiff, Nat.reduceEqDiff, Nat.reduceBEq, beq_self_eq_true, Bool.or_false, Bool.false_or, Bool.or_true, Bool.true_or, not_true, not_false_eq_true, reduceCtorEq, s777_0, s777_1, s777_4, s777_5, s777_8, s777_11, s777_14, s777_15, s777_16, s777_17, s777_20, s777_21, s777_24, s777_27, s777_30, s777_31, s777_34, s777_37, s777_40, s777_41, s777_42, s777_43, s777_44, s777_45, s777_48, s777_51, s777_52, s777_53, s777_56, s777_57, s777_58, s777_61, s777_64, s777_67, s777_68, s777_71, s777_74, s777_77, s777_78, s777_79, s777_80, s777_83, s777_84, s777_85, s777_86, s777_88, s777_91, s777_94, s777_95, rd_n, hrr, rd_p, hpb, hb, a1, h2, h4', show 43 < 47 by decide, show 44 < 47 by decide, Option.some.injEq, decide_true, decide_false, Bool.true_eq_false, Bool.false_eq_true, hd1, cal (n771 _) (c_skip (d := d - 1) H hR hlt), cal (n778 _) (c_newName (d := d - 1) H hI1 hdm1 hlt1), hR2, cal (n772 _ _) (hT _), hR3, cal (n779 _ _ _) (hN _), hR4, cal (n772 _ _) (hT2 _), bI_f, runC_nil, runC_app, r_Sk, r_Role, r_Put, r_Num, r_Nam, r_Step, r_Look, r_Roof, r_New, r_Rng, r_Pig, r_Full, r_Ord, r_M1, r_M2, r_OB, r_OR, r_OT, r_OE, r_Deep, r_Up, List.cons_append, List.nil_append]
      · have h4' : ¬ kd (cAt R3) = 44 := by rw [a3]; exact h4
        have eP : pPig kd (cAt R) = (false, [aSk, aRole 1, aNew, aSk, aSk, aRole 6]) := by
          simp [pPig, pTake, pAs, pSeq, pOk, pNo, skN, aSk, aRole, aNew, aRng, h1, h2, h3, h4, Nat.add_assoc]
        rw [eP]
        simp only [WP_eq, e_go, e_none, e_ite, e_thr0, e_ret, e_thr, e_call, e_Kv, e_Kn, e_Kx, e_K2, e_K20, e_at0, e_s1_0, e_s2_0, e_at1, e_s1_1, e_s2_1, e_at2, e_s1_2, e_s2_2, e_at3, e_s1_3, e_s2_3, e_at4, e_s1_4, e_s2_4, e_at5, e_s1_5, e_s2_5, e_at6, e_s1_6, e_s2_6, e_at7, e_s1_7, e_s2_7, e_at8, e_s1_8, e_s2_8, e_at9, e_s1_9, e_s2_9, e_at10, e_s1_10, e_s2_10, e_at11, e_s1_11, e_s2_11, e_at12, e_s1_12, e_s2_12, e_at13, e_s1_13, e_s2_13, e_kn, e_ki, e_kj, e_kd, e_kr, e_k0, e_lI, e_lJ, e_lD, e_lA, e_lA0, e_sI, e_sJ, e_sD, e_sA, e_sA0, e_inc, e_I2, e_I2z, e_I1, e_I2J, e_J2I, e_I2D, e_J2, e_lcmp, e_dcmp, e_ddiv, e_ifeq, e_iceq, e_ifne, e_icne, e_iflt, e_iclt, e_ifge, e_icge, e_ifgt, e_icgt, e_ifle, e_icle, e_ca, e_ca2, e_en, e_en0, e_sw, e_lk0, e_lk, e_dup, e_dup2, e_pop, e_ci, e_cj, e_cd, e_cr, e_c0, e_gf, e_gf2, e_gf3, e_pf, e_pf2, e_f0, e_f1, e_f2, e_f20, e_len, e_len2, e_al, e_al2, e_al3, e_alJ, e_alJ2, e_alJ3, e_alA, e_alA2, e_alA3, e_as, e_as2, e_as3, e_asB, e_asB2, e_asJ, e_asJ2, e_asJ3, e_asA, e_asA2, e_asA3, e_new, e_na, e_na2, e_cat0, e_cat1, e_tk0, e_tk1, e_tk2, e_tk3, e_tk4, e_tk5, e_tk6, e_tk7, e_tk8, e_cS, e_cS2, e_cI_0, e_cI_1, e_cI_2, e_cI_3, e_cI_4, e_cI_5, e_cI2, e_cV_0, e_cV_1, e_cV_2, e_cV_3, e_cV_4, e_cV_5, e_cV_6, e_cV_7, e_cV2, e_cV3, e_oi, e_cp, e_r0, e_r1, e_r2, e_r3, e_r4, e_r5, e_r6, e_r60, e_r7, e_W1, e_W2, e_A1, e_A2, e_Wg, e_Ag, e_rf0, e_rf1, e_len0, e_len1, e_vl0, e_vl1, z00, z10, z11, ↓reduceIte, List.getElem?_cons_zero, List.getElem?_cons_succ, List.set_cons_zero, List.set_cons_succ, and_true, true_and, and_self, or_true, true_or, or_false, false_or, Nat.reduceAdd, Nat.reduceSub, Nat.reduceLT, Nat.reduceLeDiff, Nat.reduceEqDiff, Nat.reduceBEq, beq_self_eq_true, Bool.or_false, Bool.false_or, Bool.or_true, Bool.true_or, not_true, not_false_eq_true, reduceCtorEq, s777_0, s777_1, s777_4, s777_5, s777_8, s777_11, s777_14, s777_15, s777_16, s777_17, s777_20, s777_21, s777_24, s777_27, s777_30, s777_31, s777_34, s777_37, s777_40, s777_41, s777_42, s777_43, s777_44, s777_45, s777_48, s777_51, s777_52, s777_53, s777_56, s777_57, s777_58, s777_61, s777_64, s777_67, s777_68, s777_71, s777_74, s777_77, s777_78, s777_79, s777_80, s777_83, s777_84, s777_85, s777_86, s777_88, s777_91, s777_94, s777_95, rd_n, hrr, rd_p, hpb, hb, a1, h2, h4', k3, show 43 < 47 by decide, show 44 < 47 by decide, Option.some.injEq, decide_true, decide_false, Bool.true_eq_false, Bool.false_eq_true, hd1, cal (n771 _) (c_skip (d := d - 1) H hR hlt), cal (n778 _) (c_newName (d := d - 1) H hI1 hdm1 hlt1), hR2, cal (n772 _ _) (hT _), hR3, bI_f, runC_nil, runC_app, r_Sk, r_Role, r_Put, r_Num, r_Nam, r_Step, r_Look, r_Roof, r_New, r_Rng, r_Pig, r_Full, r_Ord, r_M1, r_M2, r_OB, r_OR, r_OT, r_OE, r_Deep, r_Up, List.cons_append, List.nil_append]
    · have hT := fun Q => c_take0 (Q := Q) (ep := ep) (k := 2) (d := d - 1) H hI2 hdm1 (by decide) (by rw [a2]; exact h3)
      have eP : pPig kd (cAt R) = (false, [aSk, aRole 1, aNew, aSk]) := by
        simp [pPig, pTake, pAs, pSeq, pOk, pNo, skN, aSk, aRole, aNew, aRng, h1, h2, h3, Nat.add_assoc]
      rw [eP]
      simp only [WP_eq, e_go, e_none, e_ite, e_thr0, e_ret, e_thr, e_call, e_Kv, e_Kn, e_Kx, e_K2, e_K20, e_at0, e_s1_0, e_s2_0, e_at1, e_s1_1, e_s2_1, e_at2, e_s1_2, e_s2_2, e_at3, e_s1_3, e_s2_3, e_at4, e_s1_4, e_s2_4, e_at5, e_s1_5, e_s2_5, e_at6, e_s1_6, e_s2_6, e_at7, e_s1_7, e_s2_7, e_at8, e_s1_8, e_s2_8, e_at9, e_s1_9, e_s2_9, e_at10, e_s1_10, e_s2_10, e_at11, e_s1_11, e_s2_11, e_at12, e_s1_12, e_s2_12, e_at13, e_s1_13, e_s2_13, e_kn, e_ki, e_kj, e_kd, e_kr, e_k0, e_lI, e_lJ, e_lD, e_lA, e_lA0, e_sI, e_sJ, e_sD, e_sA, e_sA0, e_inc, e_I2, e_I2z, e_I1, e_I2J, e_J2I, e_I2D, e_J2, e_lcmp, e_dcmp, e_ddiv, e_ifeq, e_iceq, e_ifne, e_icne, e_iflt, e_iclt, e_ifge, e_icge, e_ifgt, e_icgt, e_ifle, e_icle, e_ca, e_ca2, e_en, e_en0, e_sw, e_lk0, e_lk, e_dup, e_dup2, e_pop, e_ci, e_cj, e_cd, e_cr, e_c0, e_gf, e_gf2, e_gf3, e_pf, e_pf2, e_f0, e_f1, e_f2, e_f20, e_len, e_len2, e_al, e_al2, e_al3, e_alJ, e_alJ2, e_alJ3, e_alA, e_alA2, e_alA3, e_as, e_as2, e_as3, e_asB, e_asB2, e_asJ, e_asJ2, e_asJ3, e_asA, e_asA2, e_asA3, e_new, e_na, e_na2, e_cat0, e_cat1, e_tk0, e_tk1, e_tk2, e_tk3, e_tk4, e_tk5, e_tk6, e_tk7, e_tk8, e_cS, e_cS2, e_cI_0, e_cI_1, e_cI_2, e_cI_3, e_cI_4, e_cI_5, e_cI2, e_cV_0, e_cV_1, e_cV_2, e_cV_3, e_cV_4, e_cV_5, e_cV_6, e_cV_7, e_cV2, e_cV3, e_oi, e_cp, e_r0, e_r1, e_r2, e_r3, e_r4, e_r5, e_r6, e_r60, e_r7, e_W1, e_W2, e_A1, e_A2, e_Wg, e_Ag, e_rf0, e_rf1, e_len0, e_len1, e_vl0, e_vl1, z00, z10, z11, ↓reduceIte, List.getElem?_cons_zero, List.getElem?_cons_succ, List.set_cons_zero, List.set_cons_succ, and_true, true_and, and_self, or_true, true_or, or_false, false_or, Nat.reduceAdd, Nat.reduceSub, Nat.reduceLT, Nat.reduceLeDiff, Nat.reduceEqDiff, Nat.reduceBEq, beq_self_eq_true, Bool.or_false, Bool.false_or, Bool.or_true, Bool.true_or, not_true, not_false_eq_true, reduceCtorEq, s777_0, s777_1, s777_4, s777_5, s777_8, s777_11, s777_14, s777_15, s777_16, s777_17, s777_20, s777_21, s777_24, s777_27, s777_30, s777_31, s777_34, s777_37, s777_40, s777_41, s777_42, s777_43, s777_44, s777_45, s777_48, s777_51, s777_52, s777_53, s777_56, s777_57, s777_58, s777_61, s777_64, s777_67, s777_68, s777_71, s777_74, s777_77, s777_78, s777_79, s777_80, s777_83, s777_84, s777_85, s777_86, s777_88, s777_91, s777_94, s777_95, rd_n, hrr, rd_p, hpb, hb, a1, h2, show 43 < 47 by decide, show 44 < 47 by decide, Option.some.injEq, decide_true, decide_false, Bool.true_eq_false, Bool.false_eq_true, hd1, cal (n771 _) (c_skip (d := d - 1) H hR hlt), cal (n778 _) (c_newName (d := d - 1) H hI1 hdm1 hlt1), hR2, cal (n772 _ _) (hT _), bI_f, runC_nil, runC_app, r_Sk, r_Role, r_Put, r_Num, r_Nam, r_Step, r_Look, r_Roof, r_New, r_Rng, r_Pig, r_Full, r_Ord, r_M1, r_M2, r_OB, r_OR, r_OT, r_OE, r_Deep, r_Up, List.cons_append, List.nil_append]
  · have eP : pPig kd (cAt R) = (false, [aSk, aRole 1]) := by
      simp [pPig, pTake, pAs, pSeq, pOk, pNo, skN, aSk, aRole, aNew, aRng, h1, h2, Nat.add_assoc]
    rw [eP]
    rw [a1] at k1
    simp only [WP_eq, e_go, e_none, e_ite, e_thr0, e_ret, e_thr, e_call, e_Kv, e_Kn, e_Kx, e_K2, e_K20, e_at0, e_s1_0, e_s2_0, e_at1, e_s1_1, e_s2_1, e_at2, e_s1_2, e_s2_2, e_at3, e_s1_3, e_s2_3, e_at4, e_s1_4, e_s2_4, e_at5, e_s1_5, e_s2_5, e_at6, e_s1_6, e_s2_6, e_at7, e_s1_7, e_s2_7, e_at8, e_s1_8, e_s2_8, e_at9, e_s1_9, e_s2_9, e_at10, e_s1_10, e_s2_10, e_at11, e_s1_11, e_s2_11, e_at12, e_s1_12, e_s2_12, e_at13, e_s1_13, e_s2_13, e_kn, e_ki, e_kj, e_kd, e_kr, e_k0, e_lI, e_lJ, e_lD, e_lA, e_lA0, e_sI, e_sJ, e_sD, e_sA, e_sA0, e_inc, e_I2, e_I2z, e_I1, e_I2J, e_J2I, e_I2D, e_J2, e_lcmp, e_dcmp, e_ddiv, e_ifeq, e_iceq, e_ifne, e_icne, e_iflt, e_iclt, e_ifge, e_icge, e_ifgt, e_icgt, e_ifle, e_icle, e_ca, e_ca2, e_en, e_en0, e_sw, e_lk0, e_lk, e_dup, e_dup2, e_pop, e_ci, e_cj, e_cd, e_cr, e_c0, e_gf, e_gf2, e_gf3, e_pf, e_pf2, e_f0, e_f1, e_f2, e_f20, e_len, e_len2, e_al, e_al2, e_al3, e_alJ, e_alJ2, e_alJ3, e_alA, e_alA2, e_alA3, e_as, e_as2, e_as3, e_asB, e_asB2, e_asJ, e_asJ2, e_asJ3, e_asA, e_asA2, e_asA3, e_new, e_na, e_na2, e_cat0, e_cat1, e_tk0, e_tk1, e_tk2, e_tk3, e_tk4, e_tk5, e_tk6, e_tk7, e_tk8, e_cS, e_cS2, e_cI_0, e_cI_1, e_cI_2, e_cI_3, e_cI_4, e_cI_5, e_cI2, e_cV_0, e_cV_1, e_cV_2, e_cV_3, e_cV_4, e_cV_5, e_cV_6, e_cV_7, e_cV2, e_cV3, e_oi, e_cp, e_r0, e_r1, e_r2, e_r3, e_r4, e_r5, e_r6, e_r60, e_r7, e_W1, e_W2, e_A1, e_A2, e_Wg, e_Ag, e_rf0, e_rf1, e_len0, e_len1, e_vl0, e_vl1, z00, z10, z11, ↓reduceIte, List.getElem?_cons_zero, List.getElem?_cons_succ, List.set_cons_zero, List.set_cons_succ, and_true, true_and, and_self, or_true, true_or, or_false, false_or, Nat.reduceAdd, Nat.reduceSub, Nat.reduceLT, Nat.reduceLeDiff, Nat.reduceEqDiff, Nat.reduceBEq, beq_self_eq_true, Bool.or_false, Bool.false_or, Bool.or_true, Bool.true_or, not_true, not_false_eq_true, reduceCtorEq, s777_0, s777_1, s777_4, s777_5, s777_8, s777_11, s777_14, s777_15, s777_16, s777_17, s777_20, s777_21, s777_24, s777_27, s777_30, s777_31, s777_34, s777_37, s777_40, s777_41, s777_42, s777_43, s777_44, s777_45, s777_48, s777_51, s777_52, s777_53, s777_56, s777_57, s777_58, s777_61, s777_64, s777_67, s777_68, s777_71, s777_74, s777_77, s777_78, s777_79, s777_80, s777_83, s777_84, s777_85, s777_86, s777_88, s777_91, s777_94, s777_95, rd_n, hrr, rd_p, hpb, hb, a1, h2, k1, show 43 < 47 by decide, show 44 < 47 by decide, Option.some.injEq, decide_true, decide_false, Bool.true_eq_false, Bool.false_eq_true, hd1, cal (n771 _) (c_skip (d := d - 1) H hR hlt), bI_f, runC_nil, runC_app, r_Sk, r_Role, r_Put, r_Num, r_Nam, r_Step, r_Look, r_Roof, r_New, r_Rng, r_Pig, r_Full, r_Ord, r_M1, r_M2, r_OB, r_OR, r_OT, r_OE, r_Deep, r_Up, List.cons_append, List.nil_append]
