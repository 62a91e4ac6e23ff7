/-! ===== the reference along the grammar: loops ===== -/
def stepR (num : Nat → Int32) (R : MR) (a : PA) : MR := match a.1 with
  | 0 => uSk R
  | 1 => uRole a.2.1 R
  | 2 => uWord (nI (cdR a.2.1)) R
  | 3 => uWord (num (rTk R)) R
  | 4 => uWord (nI (rTk R)) (uOpen R)
  | 15 => uOB R
  | 16 => uOR a.2.1 R
  | 17 => uOT R
  | 18 => uOE R
  | 19 => uDn R
  | 20 => uUp R
  | _ => R
def runR (num : Nat → Int32) (R : MR) (t : List PA) : MR := t.foldl (stepR num) R
theorem runR_nil (num : Nat → Int32) (R : MR) : runR num R [] = R := rfl
theorem runR_app (num : Nat → Int32) (R : MR) (s t : List PA) : runR num R (s ++ t) = runR num (runR num R s) t := List.foldl_append
theorem q_Sk (num : Nat → Int32) (R : MR) (t : List PA) : runR num R (aSk :: t) = runR num (uSk R) t := rfl
theorem q_Role (num : Nat → Int32) (R : MR) (k : Nat) (t : List PA) : runR num R (aRole k :: t) = runR num (uRole k R) t := rfl
theorem q_Put (num : Nat → Int32) (R : MR) (k : Nat) (t : List PA) : runR num R (aPut k :: t) = runR num (uWord (nI (cdR k)) R) t := rfl
theorem q_Num (num : Nat → Int32) (R : MR) (t : List PA) : runR num R (aNum :: t) = runR num (uWord (num (rTk R)) R) t := rfl
theorem q_Nam (num : Nat → Int32) (R : MR) (t : List PA) : runR num R (aNam :: t) = runR num (uWord (nI (rTk R)) (uOpen R)) t := rfl
theorem q_Step (num : Nat → Int32) (R : MR) (k a b : Nat) (t : List PA) : runR num R (aStep k a b :: t) = runR num R t := rfl
theorem q_Look (num : Nat → Int32) (R : MR) (t : List PA) : runR num R (aLook :: t) = runR num R t := rfl
theorem q_Roof (num : Nat → Int32) (R : MR) (t : List PA) : runR num R (aRoof :: t) = runR num R t := rfl
theorem q_New (num : Nat → Int32) (R : MR) (t : List PA) : runR num R (aNew :: t) = runR num R t := rfl
theorem q_Rng (num : Nat → Int32) (R : MR) (z : Nat) (t : List PA) : runR num R (aRng z :: t) = runR num R t := rfl
theorem q_Pig (num : Nat → Int32) (R : MR) (a b : Nat) (t : List PA) : runR num R (aPig a b :: t) = runR num R t := rfl
theorem q_Full (num : Nat → Int32) (R : MR) (t : List PA) : runR num R (aFull :: t) = runR num R t := rfl
theorem q_Ord (num : Nat → Int32) (R : MR) (k a b : Nat) (t : List PA) : runR num R (aOrd k a b :: t) = runR num R t := rfl
theorem q_M1 (num : Nat → Int32) (R : MR) (t : List PA) : runR num R (aM1 :: t) = runR num R t := rfl
theorem q_M2 (num : Nat → Int32) (R : MR) (t : List PA) : runR num R (aM2 :: t) = runR num R t := rfl
theorem q_OB (num : Nat → Int32) (R : MR) (t : List PA) : runR num R (aOB :: t) = runR num (uOB R) t := rfl
theorem q_OR (num : Nat → Int32) (R : MR) (k : Nat) (t : List PA) : runR num R (aOR k :: t) = runR num (uOR k R) t := rfl
theorem q_OT (num : Nat → Int32) (R : MR) (t : List PA) : runR num R (aOT :: t) = runR num (uOT R) t := rfl
theorem q_OE (num : Nat → Int32) (R : MR) (t : List PA) : runR num R (aOE :: t) = runR num (uOE R) t := rfl
theorem q_Deep (num : Nat → Int32) (R : MR) (t : List PA) : runR num R (aDeep :: t) = runR num (uDn R) t := rfl
theorem q_Up (num : Nat → Int32) (R : MR) (t : List PA) : runR num R (aUp :: t) = runR num (uUp R) t := rfl
def okR (R : MR) (a : PA) : Prop := (a.1 = 2 ∨ a.1 = 3 ∨ a.1 = 4 → rSz R < 800) ∧ (a.1 = 4 → rOp R < 400)
def sfR (num : Nat → Int32) : MR → List PA → Prop
  | _, [] => True
  | R, a :: t => okR R a ∧ sfR num (stepR num R a) t
theorem sf_app (num : Nat → Int32) : ∀ (s t : List PA) (R : MR), sfR num R (s ++ t) = (sfR num R s ∧ sfR num (runR num R s) t)
  | [], t, R => propext ⟨fun h => ⟨trivial, h⟩, fun h => h.2⟩
  | a :: s, t, R => by
    show (okR R a ∧ sfR num (stepR num R a) (s ++ t)) = ((okR R a ∧ sfR num (stepR num R a) s) ∧ sfR num (runR num (stepR num R a) s) t)
    rw [sf_app num s t (stepR num R a)]
    exact propext ⟨fun h => ⟨⟨h.1, h.2.1⟩, h.2.2⟩, fun h => ⟨h.1.1, h.1.2, h.2⟩⟩
theorem tk_step (num : Nat → Int32) (a : PA) (R : MR) : rTk (stepR num R a) = rTk R + (if a.1 = 0 then 1 else 0) := by
  obtain ⟨c, x, y, z⟩ := a
  unfold stepR
  dsimp only
  split <;> first | rfl | skip
  rw [if_neg (by
      intro h
      have h' : c = 0 := h
      subst h'
      simp_all)]
  rfl
theorem run_tk (num : Nat → Int32) : ∀ (t : List PA) (R : MR), rTk (runR num R t) = rTk R + skN t
  | [], R => rfl
  | a :: t, R => by
    show rTk (runR num (stepR num R a) t) = _
    rw [run_tk num t, tk_step, skN]
    omega
/-- how deep one is behind a trace -/
def dpT : List PA → Nat → Nat
  | [], x => x
  | a :: t, x => dpT t (if a.1 = 19 then x + 1 else if a.1 = 20 then x - 1 else x)
theorem dpT_app : ∀ (s t : List PA) (x : Nat), dpT (s ++ t) x = dpT t (dpT s x)
  | [], _, _ => rfl
  | a :: s, t, x => dpT_app s t _
theorem dp_step (num : Nat → Int32) (a : PA) (R : MR) : rDp (stepR num R a) = if a.1 = 19 then rDp R + 1 else if a.1 = 20 then rDp R - 1 else rDp R := by
  obtain ⟨c, x, y, z⟩ := a
  unfold stepR
  dsimp only
  split <;> first | rfl | skip
  rw [if_neg (by
      intro h
      have h' : c = 19 := h
      subst h'
      simp_all), if_neg (by
      intro h
      have h' : c = 20 := h
      subst h'
      simp_all)]
theorem run_dp (num : Nat → Int32) : ∀ (t : List PA) (R : MR), rDp (runR num R t) = dpT t (rDp R)
  | [], R => rfl
  | a :: t, R => by
    show rDp (runR num (stepR num R a) t) = _
    rw [run_dp num t, dp_step]
    rfl
def pD (p : Nat → PR) : Prop := ∀ i, (p i).1 = true → ∀ x, dpT (p i).2 x = x
theorem d_seq {i : Nat} {a : PR} {f : Nat → PR} (ha : a.1 = true → ∀ x, dpT a.2 x = x) (hf : pD f) (h : (pSeq i a f).1 = true) : ∀ x, dpT (pSeq i a f).2 x = x := by
  intro x
  unfold pSeq at h ⊢
  by_cases h1 : a.1 = true
  · rw [if_pos h1] at h ⊢
    show dpT (a.2 ++ (f (i + skN a.2)).2) x = x
    rw [dpT_app, ha h1, hf _ h]
  · rw [if_neg h1] at h
    exact absurd h h1
theorem d_ok {t : List PA} (h : ∀ x, dpT t x = x) : (pOk t).1 = true → ∀ x, dpT (pOk t).2 x = x := fun _ => h
theorem d_take {kd : Nat → Nat} {k : Nat} : pD (pTake kd k) := by
  intro i h x
  unfold pTake at h ⊢
  split
  · rfl
  · rfl
theorem d_name {kd : Nat → Nat} : pD (pName kd) := by
  intro i h x
  unfold pName at h ⊢
  split
  · rfl
  · rfl
def pDo (dp : Option (Nat → PR)) : Prop := ∀ f, dp = some f → pD f
theorem d_into {i : Nat} {dp : Option (Nat → PR)} {rest : Nat → PR} (hd : pDo dp) (hr : ∀ j, (rest j).1 = true → ∀ x, dpT (rest j).2 (x + 1) = x) (h : (pInto dp i rest).1 = true) : ∀ x, dpT (pInto dp i rest).2 x = x := by
  intro x
  cases dp with
  | none => rfl
  | some f =>
    cases hb : (f (i + 1)).1 with
    | false => rw [pInto_f hb] at h; cases h
    | true =>
      rw [pInto_t hb] at h ⊢
      show dpT ((f (i + 1)).2 ++ (rest (i + 1 + skN (f (i + 1)).2)).2) (x + 1) = x
      rw [dpT_app, hd f rfl _ hb, hr _ h]
theorem d_loop {kd : Nat → Nat} {k1 k2 : Nat} {part : Nat → PR} (hp : pD part) : ∀ m, pD (pLoop kd k1 k2 part m)
  | 0 => fun _ _ _ => rfl
  | m + 1 => fun i h x => by
    rw [pLoop] at h ⊢
    split
    · next hk =>
      rw [if_pos hk] at h
      exact d_seq (d_seq (d_ok (fun _ => rfl)) (fun j => d_seq (hp j) (fun l => d_ok (fun _ => rfl)))) (d_loop hp m) h x
    · rfl
theorem d_many {kd : Nat → Nat} {k1 k2 : Nat} {part : Nat → PR} (hp : pD part) : pD (pMany kd k1 k2 part) := fun i => d_seq (hp i) (fun j => d_loop hp _ j)
theorem d_up {kd : Nat → Nat} {k : Nat} (j : Nat) (h : (pSeq j (pOk [aUp]) (pTake kd k)).1 = true) (x : Nat) : dpT (pSeq j (pOk [aUp]) (pTake kd k)).2 (x + 1) = x := by
  have e : pSeq j (pOk [aUp]) (pTake kd k) = ((pTake kd k j).1, aUp :: (pTake kd k j).2) := rfl
  rw [e] at h ⊢
  exact d_take j h x
theorem d_value {kd : Nat → Nat} {vd sd : Option (Nat → PR)} (hv : pDo vd) (hs : pDo sd) : pD (pValue kd vd sd) := by
  intro i h
  unfold pValue at h ⊢
  by_cases h1 : kd i = 44
  · rw [if_pos h1]; exact fun _ => rfl
  · rw [if_neg h1] at h ⊢
    by_cases h2 : kd i = 11 ∨ kd i = 12 ∨ kd i = 13 ∨ kd i = 14
    · rw [if_pos h2]; exact fun _ => rfl
    · rw [if_neg h2] at h ⊢
      by_cases h3 : kd i = 16 ∨ kd i = 17
      · rw [if_pos h3] at h ⊢
        exact d_seq (d_ok (fun _ => rfl)) (fun j => d_seq (d_take j) (fun l => d_seq (d_name l) (fun _ => d_ok (fun _ => rfl)))) h
      · rw [if_neg h3] at h ⊢
        by_cases h4 : kd i = 34
        · rw [if_pos h4] at h ⊢
          exact d_into hv (fun j _ x => rfl) h
        · rw [if_neg h4] at h ⊢
          by_cases h5 : kd i = 27
          · rw [if_pos h5] at h ⊢
            exact d_into hs d_up h
          · rw [if_neg h5] at h ⊢
            by_cases h6 : kd i = 15
            · rw [if_pos h6] at h ⊢
              refine d_seq (d_ok (fun _ => rfl)) (fun j => ?_) h
              split
              · refine d_into hs (fun l hl x => ?_)
                have e : pSeq l (pOk [aStep 15 0 0, aUp]) (fun m => pSeq m (pTake kd 28 m) (fun _ => pOk [aPut 15])) = ((pSeq l (pTake kd 28 l) (fun _ => pOk [aPut 15])).1, aStep 15 0 0 :: aUp :: (pSeq l (pTake kd 28 l) (fun _ => pOk [aPut 15])).2) := rfl
                rw [e] at hl ⊢
                exact d_seq (d_take l) (fun _ => d_ok (fun _ => rfl)) hl x
              · exact fun z => by cases z
            · rw [if_neg h6] at h ⊢
              by_cases h7 : kd i = 25 ∨ kd i = 26
              · rw [if_pos h7] at h ⊢
                refine d_seq (d_ok (fun _ => rfl)) (fun j => ?_) h
                split
                · refine d_into hs (fun l hl x => ?_)
                  cases hb : (pTake kd 32 l).1 with
                  | false => rw [pSeq_f hb, hb] at hl; cases hl
                  | true =>
                    rw [pSeq_t hb] at hl ⊢
                    show dpT ((pTake kd 32 l).2 ++ _) (x + 1) = x
                    rw [dpT_app, d_take l hb]
                    cases hsd : sd with
                    | none => rw [hsd] at hl; cases hl
                    | some f =>
                      rw [hsd] at hl
                      generalize l + skN (pTake kd 32 l).2 = o at *
                      cases hb2 : (f o).1 with
                      | false =>
                        have e : pSeq o ((Option.getD (some f) (fun _ => pNo [])) o) (fun q => pSeq q (pOk [aStep (kd i) 0 0, aUp, aPut (kd i)]) (pTake kd 28)) = f o := pSeq_f hb2
                        simp only [e, hb2] at hl
                        cases hl
                      | true =>
                        have e : pSeq o ((Option.getD (some f) (fun _ => pNo [])) o) (fun q => pSeq q (pOk [aStep (kd i) 0 0, aUp, aPut (kd i)]) (pTake kd 28)) = ((pTake kd 28 (o + skN (f o).2)).1, (f o).2 ++ aStep (kd i) 0 0 :: aUp :: aPut (kd i) :: (pTake kd 28 (o + skN (f o).2)).2) := pSeq_t hb2
                        simp only [e] at hl ⊢
                        rw [dpT_app, hs f hsd o hb2]
                        exact d_take _ hl x
                · exact fun z => by cases z
              · rw [if_neg h7] at h
                cases h
theorem d_lev {kd : Nat → Nat} : ∀ e, pD (pVal kd e) ∧ pD (pProd kd e) ∧ pD (pSum kd e)
  | 0 => by
    have h : pD (pVal kd 0) := d_value (fun f z => by cases z) (fun f z => by cases z)
    exact ⟨h, d_many h, d_many (d_many h)⟩
  | e + 1 => by
    have ih := d_lev (kd := kd) e
    have h : pD (pVal kd (e + 1)) := d_value (fun f z => by rw [← Option.some.inj z]; exact ih.1) (fun f z => by rw [← Option.some.inj z]; exact ih.2.2)
    exact ⟨h, d_many h, d_many (d_many h)⟩
theorem d_single {kd : Nat → Nat} {gd td : Option (Nat → PR)} {sum : Nat → PR} (hg : pDo gd) (ht : pDo td) (hs : pD sum) : pD (pSingle kd gd td sum) := by
  intro i h
  unfold pSingle at h ⊢
  by_cases h1 : kd i = 22
  · rw [if_pos h1] at h ⊢
    exact d_into hg (fun j _ x => rfl) h
  · rw [if_neg h1] at h ⊢
    by_cases h2 : kd i = 29
    · rw [if_pos h2] at h ⊢
      exact d_into ht d_up h
    · rw [if_neg h2] at h ⊢
      by_cases h3 : kd i = 19 ∨ kd i = 21
      · rw [if_pos h3] at h ⊢
        exact d_seq (d_ok (fun _ => rfl)) (fun j => d_seq (d_name j) (fun l => d_seq (d_name l) (fun _ => d_ok (fun _ => rfl)))) h
      · rw [if_neg h3] at h ⊢
        by_cases h4 : kd i = 20
        · rw [if_pos h4] at h ⊢
          exact d_seq (d_ok (fun _ => rfl)) (fun j => d_seq (hs j) (fun _ => d_ok (fun _ => rfl))) h
        · rw [if_neg h4] at h ⊢
          refine d_seq (hs i) (fun j => ?_) h
          split
          · exact d_seq (d_ok (fun _ => rfl)) (fun l => d_seq (hs l) (fun _ => d_ok (fun _ => rfl)))
          · exact fun z => by cases z
theorem d_tev {kd : Nat → Nat} : ∀ e, pD (pSng kd e) ∧ pD (pBoth kd e) ∧ pD (pTst kd e)
  | 0 => by
    have h : pD (pSng kd 0) := d_single (fun f z => by cases z) (fun f z => by cases z) (d_lev 0).2.2
    exact ⟨h, d_many h, d_many (d_many h)⟩
  | e + 1 => by
    have ih := d_tev (kd := kd) e
    have h : pD (pSng kd (e + 1)) := d_single (fun f z => by rw [← Option.some.inj z]; exact ih.1) (fun f z => by rw [← Option.some.inj z]; exact ih.2.2) (d_lev (e + 1)).2.2
    exact ⟨h, d_many h, d_many (d_many h)⟩
/-- a method of the reference takes what a part of the grammar says -/
def rP (σ : mxS) (m0 m1 m2 m3 m11 m13 m14 m15 : Value) (M kn fr mn rl mt g NT : Nat) (num : Nat → Int32) (e d y : Nat) (args : mxL) (p : Nat → PR) : Prop := ∀ R, rTk R ≤ NT → rDp R + e = 8 → sfR num R (p (rTk R)).2 → ∀ Q, WP d y 0 args [] (mdW σ m0 m1 m2 m3 m11 m13 m14 m15 M kn fr mn rl mt g R) Q = Q (.inl (some (.int (bI (p (rTk R)).1)))) (mdW σ m0 m1 m2 m3 m11 m13 m14 m15 M kn fr mn rl mt g (runR num R (p (rTk R)).2))
theorem r_sumL {d e : Nat} {part : Nat → PR} {σ : mxS} {M kn fr mn rl mt g NT : Nat} {kd : Nat → Nat} {kf ff nf : Nat → Int32} {m0 m1 m2 m3 m11 m13 m14 m15 : Value} {num : Nat → Int32} (H : mdC σ M kn fr mn rl mt g kd NT kf ff nf) (hE : kd NT = 45 ∨ kd NT = 46) (hd : 2 ≤ d) (hp : rP σ m0 m1 m2 m3 m11 m13 m14 m15 M kn fr mn rl mt g NT num e (d - 1) 1567 [some (.ref M), none] part) (hB : pB NT part) (hD : pD part) : ∀ m R (v1 : Option Value), rTk R ≤ NT → rDp R + e = 8 → 401 - rTk R ≤ m → sfR num R (pLoop kd 33 34 part m (rTk R)).2 → ∀ {Q : Option Value ⊕ Nat → mxS → Prop}, WP d 1566 9 [some (.ref M), v1] [] (mdW σ m0 m1 m2 m3 m11 m13 m14 m15 M kn fr mn rl mt g R) Q = Q (.inl (some (.int (bI (pLoop kd 33 34 part m (rTk R)).1)))) (mdW σ m0 m1 m2 m3 m11 m13 m14 m15 M kn fr mn rl mt g (runR num R (pLoop kd 33 34 part m (rTk R)).2)) := by
  have mM := fun R => md_M (m0 := m0) (m1 := m1) (m2 := m2) (m3 := m3) (m11 := m11) (m13 := m13) (m14 := m14) (m15 := m15) H R
  have mS := fun R => md_sk (m0 := m0) (m1 := m1) (m2 := m2) (m3 := m3) (m11 := m11) (m13 := m13) (m14 := m14) (m15 := m15) H R
  have hM := H.1.1
  have hN4 := H.2.2.2.2
  have hd1 : 1 ≤ d := by omega
  have hdm1 : 1 ≤ d - 1 := by omega
  intro m
  induction m with
  | zero =>
    intro R v1 hR hDp hm _ Q
    omega
  | succ m ih =>
    intro R v1 hR hDp hm hsf Q
    have hA := fun Q => m_isSign (m0 := m0) (m1 := m1) (m2 := m2) (m3 := m3) (m11 := m11) (m13 := m13) (m14 := m14) (m15 := m15) (Q := Q) (k := 33) (c := 43) (d := d - 1) H hR (by decide) rfl
    have hBb := fun Q => m_isSign (m0 := m0) (m1 := m1) (m2 := m2) (m3 := m3) (m11 := m11) (m13 := m13) (m14 := m14) (m15 := m15) (Q := Q) (k := 34) (c := 45) (d := d - 1) H hR (by decide) rfl
    by_cases h : kd (rTk R) = 33 ∨ kd (rTk R) = 34
    · have hlt : rTk R < NT := h.elim (fun z => nt_lt hE hR z (by decide)) (fun z => nt_lt hE hR z (by decide))
      have hI1 : rTk (uSk R) ≤ NT := hlt
      have hp1 := hp (uSk R) hI1 hDp
      rw [show rTk (uSk R) = rTk R + 1 from rfl] at hp1
      have hB1 := hB (rTk R + 1) (by omega)
      cases hb1 : (part (rTk R + 1)).1 with
      | false =>
        rw [pLoop_f h hb1] at hsf ⊢
        have h1 := hp1 hsf.2
        simp only [hb1, bI_f] at h1
        conv => lhs; rw [WP_eq, s1566_9]
        rcases h with h | h
        · simp only [h, if_true] at hA
          simp only [WP_eq, e_go, e_none, e_ite, e_thr0, e_ret, e_thr, e_call, e_Kv, e_Kn, e_Kx, e_K2, e_K20, e_at0, e_s1_0, e_s2_0, e_at1, e_s1_1, e_s2_1, e_at2, e_s1_2, e_s2_2, e_at3, e_s1_3, e_s2_3, e_at4, e_s1_4, e_s2_4, e_at5, e_s1_5, e_s2_5, e_at6, e_s1_6, e_s2_6, e_at7, e_s1_7, e_s2_7, e_at8, e_s1_8, e_s2_8, e_at9, e_s1_9, e_s2_9, e_at10, e_s1_10, e_s2_10, e_at11, e_s1_11, e_s2_11, e_at12, e_s1_12, e_s2_12, e_at13, e_s1_13, e_s2_13, e_kn, e_ki, e_kj, e_kd, e_kr, e_k0, e_lI, e_lJ, e_lD, e_lA, e_lA0, e_sI, e_sJ, e_sD, e_sA, e_sA0, e_inc, e_I2, e_I2z, e_I1, e_I2J, e_J2I, e_I2D, e_J2, e_lcmp, e_dcmp, e_ddiv, e_ifeq, e_iceq, e_ifne, e_icne, e_iflt, e_iclt, e_ifge, e_icge, e_ifgt, e_icgt, e_ifle, e_icle, e_ca, e_ca2, e_en, e_en0, e_sw, e_lk0, e_lk, e_dup, e_dup2, e_pop, e_ci, e_cj, e_cd, e_cr, e_c0, e_gf, e_gf2, e_gf3, e_pf, e_pf2, e_f0, e_f1, e_f2, e_f20, e_len, e_len2, e_al, e_al2, e_al3, e_alJ, e_alJ2, e_alJ3, e_alA, e_alA2, e_alA3, e_as, e_as2, e_as3, e_asB, e_asB2, e_asJ, e_asJ2, e_asJ3, e_asA, e_asA2, e_asA3, e_new, e_na, e_na2, e_cat0, e_cat1, e_tk0, e_tk1, e_tk2, e_tk3, e_tk4, e_tk5, e_tk6, e_tk7, e_tk8, e_cS, e_cS2, e_cI_0, e_cI_1, e_cI_2, e_cI_3, e_cI_4, e_cI_5, e_cI2, e_cV_0, e_cV_1, e_cV_2, e_cV_3, e_cV_4, e_cV_5, e_cV_6, e_cV_7, e_cV2, e_cV3, e_oi, e_cp, e_r0, e_r1, e_r2, e_r3, e_r4, e_r5, e_r6, e_r60, e_r7, e_W1, e_W2, e_A1, e_A2, e_Wg, e_Ag, e_rf0, e_rf1, e_len0, e_len1, e_vl0, e_vl1, z00, z10, z11, ↓reduceIte, List.getElem?_cons_zero, List.getElem?_cons_succ, List.set_cons_zero, List.set_cons_succ, and_true, true_and, and_self, or_true, true_or, or_false, false_or, Nat.reduceAdd, Nat.reduceSub, Nat.reduceLT, Nat.reduceLeDiff, Nat.reduceEqDiff, Nat.reduceBEq, beq_self_eq_true, Bool.or_false, Bool.false_or, Bool.or_true, Bool.true_or, not_true, not_false_eq_true, reduceCtorEq, s1566_10, s1566_12, s1566_15, s1566_18, s1566_19, s1566_21, s1566_24, s1566_27, s1566_28, s1566_30, s1566_33, s1566_36, s1566_38, s1566_41, s1566_43, s1566_44, s1566_45, s1566_46, s1566_49, s1566_50, s1566_51, s1566_54, s1566_55, s1566_58, s1566_61, s1566_62, s1566_63, s1566_64, s1566_65, s1566_68, md_n, mM, mS, hM, hd1, cal (n1552 _ _) (hA _), nIm, cal (n1567 _) (h1 _), bI_f, runR_nil, runR_app, q_Sk, q_Role, q_Put, q_Num, q_Nam, q_Step, q_Look, q_Roof, q_New, q_Rng, q_Pig, q_Full, q_Ord, q_M1, q_M2, q_OB, q_OR, q_OT, q_OE, q_Deep, q_Up, List.cons_append, List.nil_append]
        · have hne : ¬ kd (rTk R) = 33 := by omega
          simp only [hne, if_false] at hA
          simp only [h, if_true] at hBb
          simp only [WP_eq, e_go, e_none, e_ite, e_thr0, e_ret, e_thr, e_call, e_Kv, e_Kn, e_Kx, e_K2, e_K20, e_at0, e_s1_0, e_s2_0, e_at1, e_s1_1, e_s2_1, e_at2, e_s1_2, e_s2_2, e_at3, e_s1_3, e_s2_3, e_at4, e_s1_4, e_s2_4, e_at5, e_s1_5, e_s2_5, e_at6, e_s1_6, e_s2_6, e_at7, e_s1_7, e_s2_7, e_at8, e_s1_8, e_s2_8, e_at9, e_s1_9, e_s2_9, e_at10, e_s1_10, e_s2_10, e_at11, e_s1_11, e_s2_11, e_at12, e_s1_12, e_s2_12, e_at13, e_s1_13, e_s2_13, e_kn, e_ki, e_kj, e_kd, e_kr, e_k0, e_lI, e_lJ, e_lD, e_lA, e_lA0, e_sI, e_sJ, e_sD, e_sA, e_sA0, e_inc, e_I2, e_I2z, e_I1, e_I2J, e_J2I, e_I2D, e_J2, e_lcmp, e_dcmp, e_ddiv, e_ifeq, e_iceq, e_ifne, e_icne, e_iflt, e_iclt, e_ifge, e_icge, e_ifgt, e_icgt, e_ifle, e_icle, e_ca, e_ca2, e_en, e_en0, e_sw, e_lk0, e_lk, e_dup, e_dup2, e_pop, e_ci, e_cj, e_cd, e_cr, e_c0, e_gf, e_gf2, e_gf3, e_pf, e_pf2, e_f0, e_f1, e_f2, e_f20, e_len, e_len2, e_al, e_al2, e_al3, e_alJ, e_alJ2, e_alJ3, e_alA, e_alA2, e_alA3, e_as, e_as2, e_as3, e_asB, e_asB2, e_asJ, e_asJ2, e_asJ3, e_asA, e_asA2, e_asA3, e_new, e_na, e_na2, e_cat0, e_cat1, e_tk0, e_tk1, e_tk2, e_tk3, e_tk4, e_tk5, e_tk6, e_tk7, e_tk8, e_cS, e_cS2, e_cI_0, e_cI_1, e_cI_2, e_cI_3, e_cI_4, e_cI_5, e_cI2, e_cV_0, e_cV_1, e_cV_2, e_cV_3, e_cV_4, e_cV_5, e_cV_6, e_cV_7, e_cV2, e_cV3, e_oi, e_cp, e_r0, e_r1, e_r2, e_r3, e_r4, e_r5, e_r6, e_r60, e_r7, e_W1, e_W2, e_A1, e_A2, e_Wg, e_Ag, e_rf0, e_rf1, e_len0, e_len1, e_vl0, e_vl1, z00, z10, z11, ↓reduceIte, List.getElem?_cons_zero, List.getElem?_cons_succ, List.set_cons_zero, List.set_cons_succ, and_true, true_and, and_self, or_true, true_or, or_false, false_or, Nat.reduceAdd, Nat.reduceSub, Nat.reduceLT, Nat.reduceLeDiff, Nat.reduceEqDiff, Nat.reduceBEq, beq_self_eq_true, Bool.or_false, Bool.false_or, Bool.or_true, Bool.true_or, not_true, not_false_eq_true, reduceCtorEq, s1566_10, s1566_12, s1566_15, s1566_18, s1566_19, s1566_21, s1566_24, s1566_27, s1566_28, s1566_30, s1566_33, s1566_36, s1566_38, s1566_41, s1566_43, s1566_44, s1566_45, s1566_46, s1566_49, s1566_50, s1566_51, s1566_54, s1566_55, s1566_58, s1566_61, s1566_62, s1566_63, s1566_64, s1566_65, s1566_68, md_n, mM, mS, hM, hd1, cal (n1552 _ _) (hA _), cal (n1552 _ _) (hBb _), nIm, cal (n1567 _) (h1 _), bI_f, runR_nil, runR_app, q_Sk, q_Role, q_Put, q_Num, q_Nam, q_Step, q_Look, q_Roof, q_New, q_Rng, q_Pig, q_Full, q_Ord, q_M1, q_M2, q_OB, q_OR, q_OT, q_OE, q_Deep, q_Up, List.cons_append, List.nil_append]
      | true =>
        rw [pLoop_t h hb1] at hsf ⊢
        have hsf2 : sfR num (uSk R) (part (rTk R + 1)).2 ∧ sfR num (runR num (uSk R) (part (rTk R + 1)).2) (aPut (kd (rTk R)) :: aStep (kd (rTk R)) 0 0 :: (pLoop kd 33 34 part m (rTk R + 1 + skN (part (rTk R + 1)).2)).2) := by
          have := hsf.2
          rw [sf_app] at this
          exact this
        have h1 := hp1 hsf2.1
        simp only [hb1, bI_t] at h1
        have t2 : rTk (runR num (uSk R) (part (rTk R + 1)).2) = rTk R + 1 + skN (part (rTk R + 1)).2 := run_tk num _ (uSk R)
        have d2 : rDp (runR num (uSk R) (part (rTk R + 1)).2) = rDp R := (run_dp num _ (uSk R)).trans (hD _ hb1 _)
        generalize hR2 : runR num (uSk R) (part (rTk R + 1)).2 = R2 at *
        have hs8 : rSz R2 < 800 := hsf2.2.1.1 (Or.inl rfl)
        have hR2N : rTk R2 ≤ NT := by rw [t2]; exact hB1
        conv => lhs; rw [WP_eq, s1566_9]
        rcases h with h | h
        · have IH := fun v Q => ih (uWord (nI 34) R2) v hR2N (by show rDp R2 + e = 8; rw [d2]; exact hDp) (by show 401 - rTk R2 ≤ m; rw [t2]; omega) (by
            show sfR num (uWord (nI 34) R2) (pLoop kd 33 34 part m (rTk R2)).2
            rw [t2]
            have := hsf2.2.2.2
            rw [h] at this
            exact this) (Q := Q)
          rw [show rTk (uWord (nI 34) R2) = rTk R2 from rfl, t2] at IH
          simp only [h, if_true] at hA
          have eC : cdR 33 = 34 := rfl
          simp only [WP_eq, e_go, e_none, e_ite, e_thr0, e_ret, e_thr, e_call, e_Kv, e_Kn, e_Kx, e_K2, e_K20, e_at0, e_s1_0, e_s2_0, e_at1, e_s1_1, e_s2_1, e_at2, e_s1_2, e_s2_2, e_at3, e_s1_3, e_s2_3, e_at4, e_s1_4, e_s2_4, e_at5, e_s1_5, e_s2_5, e_at6, e_s1_6, e_s2_6, e_at7, e_s1_7, e_s2_7, e_at8, e_s1_8, e_s2_8, e_at9, e_s1_9, e_s2_9, e_at10, e_s1_10, e_s2_10, e_at11, e_s1_11, e_s2_11, e_at12, e_s1_12, e_s2_12, e_at13, e_s1_13, e_s2_13, e_kn, e_ki, e_kj, e_kd, e_kr, e_k0, e_lI, e_lJ, e_lD, e_lA, e_lA0, e_sI, e_sJ, e_sD, e_sA, e_sA0, e_inc, e_I2, e_I2z, e_I1, e_I2J, e_J2I, e_I2D, e_J2, e_lcmp, e_dcmp, e_ddiv, e_ifeq, e_iceq, e_ifne, e_icne, e_iflt, e_iclt, e_ifge, e_icge, e_ifgt, e_icgt, e_ifle, e_icle, e_ca, e_ca2, e_en, e_en0, e_sw, e_lk0, e_lk, e_dup, e_dup2, e_pop, e_ci, e_cj, e_cd, e_cr, e_c0, e_gf, e_gf2, e_gf3, e_pf, e_pf2, e_f0, e_f1, e_f2, e_f20, e_len, e_len2, e_al, e_al2, e_al3, e_alJ, e_alJ2, e_alJ3, e_alA, e_alA2, e_alA3, e_as, e_as2, e_as3, e_asB, e_asB2, e_asJ, e_asJ2, e_asJ3, e_asA, e_asA2, e_asA3, e_new, e_na, e_na2, e_cat0, e_cat1, e_tk0, e_tk1, e_tk2, e_tk3, e_tk4, e_tk5, e_tk6, e_tk7, e_tk8, e_cS, e_cS2, e_cI_0, e_cI_1, e_cI_2, e_cI_3, e_cI_4, e_cI_5, e_cI2, e_cV_0, e_cV_1, e_cV_2, e_cV_3, e_cV_4, e_cV_5, e_cV_6, e_cV_7, e_cV2, e_cV3, e_oi, e_cp, e_r0, e_r1, e_r2, e_r3, e_r4, e_r5, e_r6, e_r60, e_r7, e_W1, e_W2, e_A1, e_A2, e_Wg, e_Ag, e_rf0, e_rf1, e_len0, e_len1, e_vl0, e_vl1, z00, z10, z11, ↓reduceIte, List.getElem?_cons_zero, List.getElem?_cons_succ, List.set_cons_zero, List.set_cons_succ, and_true, true_and, and_self, or_true, true_or, or_false, false_or, Nat.reduceAdd, Nat.reduceSub, Nat.reduceLT, Nat.reduceLeDiff, Nat.reduceEqDiff, Nat.reduceBEq, beq_self_eq_true, Bool.or_false, Bool.false_or, Bool.or_true, Bool.true_or, not_true, not_false_eq_true, reduceCtorEq, s1566_10, s1566_12, s1566_15, s1566_18, s1566_19, s1566_21, s1566_24, s1566_27, s1566_28, s1566_30, s1566_33, s1566_36, s1566_38, s1566_41, s1566_43, s1566_44, s1566_45, s1566_46, s1566_49, s1566_50, s1566_51, s1566_54, s1566_55, s1566_58, s1566_61, s1566_62, s1566_63, s1566_64, s1566_65, s1566_68, md_n, mM, mS, hM, hd1, cal (n1552 _ _) (hA _), nIm, cal (n1567 _) (h1 _), cal (n1556 _ _) (m_put (m0 := m0) (m1 := m1) (m2 := m2) (m3 := m3) (m11 := m11) (m13 := m13) (m14 := m14) (m15 := m15) (d := d - 1) (x := nI 34) H hR2N hs8), bI_t, runR_nil, runR_app, q_Sk, q_Role, q_Put, q_Num, q_Nam, q_Step, q_Look, q_Roof, q_New, q_Rng, q_Pig, q_Full, q_Ord, q_M1, q_M2, q_OB, q_OR, q_OT, q_OE, q_Deep, q_Up, List.cons_append, List.nil_append, hR2, h, eC]
          exact stk (IH _ _)
        · have IH := fun v Q => ih (uWord (nI 35) R2) v hR2N (by show rDp R2 + e = 8; rw [d2]; exact hDp) (by show 401 - rTk R2 ≤ m; rw [t2]; omega) (by
            show sfR num (uWord (nI 35) R2) (pLoop kd 33 34 part m (rTk R2)).2
            rw [t2]
            have := hsf2.2.2.2
            rw [h] at this
            exact this) (Q := Q)
          rw [show rTk (uWord (nI 35) R2) = rTk R2 from rfl, t2] at IH
          have hne : ¬ kd (rTk R) = 33 := by omega
          simp only [hne, if_false] at hA
          simp only [h, if_true] at hBb
          have eC : cdR 34 = 35 := rfl
          simp only [WP_eq, e_go, e_none, e_ite, e_thr0, e_ret, e_thr, e_call, e_Kv, e_Kn, e_Kx, e_K2, e_K20, e_at0, e_s1_0, e_s2_0, e_at1, e_s1_1, e_s2_1, e_at2, e_s1_2, e_s2_2, e_at3, e_s1_3, e_s2_3, e_at4, e_s1_4, e_s2_4, e_at5, e_s1_5, e_s2_5, e_at6, e_s1_6, e_s2_6, e_at7, e_s1_7, e_s2_7, e_at8, e_s1_8, e_s2_8, e_at9, e_s1_9, e_s2_9, e_at10, e_s1_10, e_s2_10, e_at11, e_s1_11, e_s2_11, e_at12, e_s1_12, e_s2_12, e_at13, e_s1_13, e_s2_13, e_kn, e_ki, e_kj, e_kd, e_kr, e_k0, e_lI, e_lJ, e_lD, e_lA, e_lA0, e_sI, e_sJ, e_sD, e_sA, e_sA0, e_inc, e_I2, e_I2z, e_I1, e_I2J, e_J2I, e_I2D, e_J2, e_lcmp, e_dcmp, e_ddiv, e_ifeq, e_iceq, e_ifne, e_icne, e_iflt, e_iclt, e_ifge, e_icge, e_ifgt, e_icgt, e_ifle, e_icle, e_ca, e_ca2, e_en, e_en0, e_sw, e_lk0, e_lk, e_dup, e_dup2, e_pop, e_ci, e_cj, e_cd, e_cr, e_c0, e_gf, e_gf2, e_gf3, e_pf, e_pf2, e_f0, e_f1, e_f2, e_f20, e_len, e_len2, e_al, e_al2, e_al3, e_alJ, e_alJ2, e_alJ3, e_alA, e_alA2, e_alA3, e_as, e_as2, e_as3, e_asB, e_asB2, e_asJ, e_asJ2, e_asJ3, e_asA, e_asA2, e_asA3, e_new, e_na, e_na2, e_cat0, e_cat1, e_tk0, e_tk1, e_tk2, e_tk3, e_tk4, e_tk5, e_tk6, e_tk7, e_tk8, e_cS, e_cS2, e_cI_0, e_cI_1, e_cI_2, e_cI_3, e_cI_4, e_cI_5, e_cI2, e_cV_0, e_cV_1, e_cV_2, e_cV_3, e_cV_4, e_cV_5, e_cV_6, e_cV_7, e_cV2, e_cV3, e_oi, e_cp, e_r0, e_r1, e_r2, e_r3, e_r4, e_r5, e_r6, e_r60, e_r7, e_W1, e_W2, e_A1, e_A2, e_Wg, e_Ag, e_rf0, e_rf1, e_len0, e_len1, e_vl0, e_vl1, z00, z10, z11, ↓reduceIte, List.getElem?_cons_zero, List.getElem?_cons_succ, List.set_cons_zero, List.set_cons_succ, and_true, true_and, and_self, or_true, true_or, or_false, false_or, Nat.reduceAdd, Nat.reduceSub, Nat.reduceLT, Nat.reduceLeDiff, Nat.reduceEqDiff, Nat.reduceBEq, beq_self_eq_true, Bool.or_false, Bool.false_or, Bool.or_true, Bool.true_or, not_true, not_false_eq_true, reduceCtorEq, s1566_10, s1566_12, s1566_15, s1566_18, s1566_19, s1566_21, s1566_24, s1566_27, s1566_28, s1566_30, s1566_33, s1566_36, s1566_38, s1566_41, s1566_43, s1566_44, s1566_45, s1566_46, s1566_49, s1566_50, s1566_51, s1566_54, s1566_55, s1566_58, s1566_61, s1566_62, s1566_63, s1566_64, s1566_65, s1566_68, md_n, mM, mS, hM, hd1, cal (n1552 _ _) (hA _), cal (n1552 _ _) (hBb _), nIm, cal (n1567 _) (h1 _), cal (n1556 _ _) (m_put (m0 := m0) (m1 := m1) (m2 := m2) (m3 := m3) (m11 := m11) (m13 := m13) (m14 := m14) (m15 := m15) (d := d - 1) (x := nI 35) H hR2N hs8), bI_t, runR_nil, runR_app, q_Sk, q_Role, q_Put, q_Num, q_Nam, q_Step, q_Look, q_Roof, q_New, q_Rng, q_Pig, q_Full, q_Ord, q_M1, q_M2, q_OB, q_OR, q_OT, q_OE, q_Deep, q_Up, List.cons_append, List.nil_append, hR2, h, eC]
          exact stk (IH _ _)
    · have n1 : ¬ kd (rTk R) = 33 := fun z => h (Or.inl z)
      have n2 : ¬ kd (rTk R) = 34 := fun z => h (Or.inr z)
      rw [pLoop_0 h]
      simp only [n1, if_false] at hA
      simp only [n2, if_false] at hBb
      conv => lhs; rw [WP_eq, s1566_9]
      simp only [WP_eq, e_go, e_none, e_ite, e_thr0, e_ret, e_thr, e_call, e_Kv, e_Kn, e_Kx, e_K2, e_K20, e_at0, e_s1_0, e_s2_0, e_at1, e_s1_1, e_s2_1, e_at2, e_s1_2, e_s2_2, e_at3, e_s1_3, e_s2_3, e_at4, e_s1_4, e_s2_4, e_at5, e_s1_5, e_s2_5, e_at6, e_s1_6, e_s2_6, e_at7, e_s1_7, e_s2_7, e_at8, e_s1_8, e_s2_8, e_at9, e_s1_9, e_s2_9, e_at10, e_s1_10, e_s2_10, e_at11, e_s1_11, e_s2_11, e_at12, e_s1_12, e_s2_12, e_at13, e_s1_13, e_s2_13, e_kn, e_ki, e_kj, e_kd, e_kr, e_k0, e_lI, e_lJ, e_lD, e_lA, e_lA0, e_sI, e_sJ, e_sD, e_sA, e_sA0, e_inc, e_I2, e_I2z, e_I1, e_I2J, e_J2I, e_I2D, e_J2, e_lcmp, e_dcmp, e_ddiv, e_ifeq, e_iceq, e_ifne, e_icne, e_iflt, e_iclt, e_ifge, e_icge, e_ifgt, e_icgt, e_ifle, e_icle, e_ca, e_ca2, e_en, e_en0, e_sw, e_lk0, e_lk, e_dup, e_dup2, e_pop, e_ci, e_cj, e_cd, e_cr, e_c0, e_gf, e_gf2, e_gf3, e_pf, e_pf2, e_f0, e_f1, e_f2, e_f20, e_len, e_len2, e_al, e_al2, e_al3, e_alJ, e_alJ2, e_alJ3, e_alA, e_alA2, e_alA3, e_as, e_as2, e_as3, e_asB, e_asB2, e_asJ, e_asJ2, e_asJ3, e_asA, e_asA2, e_asA3, e_new, e_na, e_na2, e_cat0, e_cat1, e_tk0, e_tk1, e_tk2, e_tk3, e_tk4, e_tk5, e_tk6, e_tk7, e_tk8, e_cS, e_cS2, e_cI_0, e_cI_1, e_cI_2, e_cI_3, e_cI_4, e_cI_5, e_cI2, e_cV_0, e_cV_1, e_cV_2, e_cV_3, e_cV_4, e_cV_5, e_cV_6, e_cV_7, e_cV2, e_cV3, e_oi, e_cp, e_r0, e_r1, e_r2, e_r3, e_r4, e_r5, e_r6, e_r60, e_r7, e_W1, e_W2, e_A1, e_A2, e_Wg, e_Ag, e_rf0, e_rf1, e_len0, e_len1, e_vl0, e_vl1, z00, z10, z11, ↓reduceIte, List.getElem?_cons_zero, List.getElem?_cons_succ, List.set_cons_zero, List.set_cons_succ, and_true, true_and, and_self, or_true, true_or, or_false, false_or, Nat.reduceAdd, Nat.reduceSub, Nat.reduceLT, Nat.reduceLeDiff, Nat.reduceEqDiff, Nat.reduceBEq, beq_self_eq_true, Bool.or_false, Bool.false_or, Bool.or_true, Bool.true_or, not_true, not_false_eq_true, reduceCtorEq, s1566_10, s1566_12, s1566_15, s1566_18, s1566_19, s1566_21, s1566_24, s1566_27, s1566_28, s1566_30, s1566_33, s1566_36, s1566_38, s1566_41, s1566_43, s1566_44, s1566_45, s1566_46, s1566_49, s1566_50, s1566_51, s1566_54, s1566_55, s1566_58, s1566_61, s1566_62, s1566_63, s1566_64, s1566_65, s1566_68, s1566_71, s1566_72, md_n, mM, hM, hd1, cal (n1552 _ _) (hA _), cal (n1552 _ _) (hBb _), pOk, bI_t, runR_nil, runR_app, q_Sk, q_Role, q_Put, q_Num, q_Nam, q_Step, q_Look, q_Roof, q_New, q_Rng, q_Pig, q_Full, q_Ord, q_M1, q_M2, q_OB, q_OR, q_OT, q_OE, q_Deep, q_Up, List.cons_append, List.nil_append]
theorem r_sum {d e : Nat} {part : Nat → PR} {σ : mxS} {M kn fr mn rl mt g NT : Nat} {kd : Nat → Nat} {kf ff nf : Nat → Int32} {m0 m1 m2 m3 m11 m13 m14 m15 : Value} {num : Nat → Int32} (H : mdC σ M kn fr mn rl mt g kd NT kf ff nf) (hE : kd NT = 45 ∨ kd NT = 46) (hd : 2 ≤ d) (hp : rP σ m0 m1 m2 m3 m11 m13 m14 m15 M kn fr mn rl mt g NT num e (d - 1) 1567 [some (.ref M), none] part) (hB : pB NT part) (hD : pD part) : rP σ m0 m1 m2 m3 m11 m13 m14 m15 M kn fr mn rl mt g NT num e d 1566 [some (.ref M), none] (pMany kd 33 34 part) := by
  intro R hR hDp hsf Q
  have mM := fun R => md_M (m0 := m0) (m1 := m1) (m2 := m2) (m3 := m3) (m11 := m11) (m13 := m13) (m14 := m14) (m15 := m15) H R
  have hM := H.1.1
  have hd1 : 1 ≤ d := by omega
  have hp1 := hp R hR hDp
  have hB1 := hB (rTk R) hR
  unfold pMany at hsf ⊢
  cases hb1 : (part (rTk R)).1 with
  | false =>
    rw [pSeq_f hb1] at hsf ⊢
    have h1 := hp1 hsf
    simp only [hb1, bI_f] at h1 ⊢
    simp only [WP_eq, e_go, e_none, e_ite, e_thr0, e_ret, e_thr, e_call, e_Kv, e_Kn, e_Kx, e_K2, e_K20, e_at0, e_s1_0, e_s2_0, e_at1, e_s1_1, e_s2_1, e_at2, e_s1_2, e_s2_2, e_at3, e_s1_3, e_s2_3, e_at4, e_s1_4, e_s2_4, e_at5, e_s1_5, e_s2_5, e_at6, e_s1_6, e_s2_6, e_at7, e_s1_7, e_s2_7, e_at8, e_s1_8, e_s2_8, e_at9, e_s1_9, e_s2_9, e_at10, e_s1_10, e_s2_10, e_at11, e_s1_11, e_s2_11, e_at12, e_s1_12, e_s2_12, e_at13, e_s1_13, e_s2_13, e_kn, e_ki, e_kj, e_kd, e_kr, e_k0, e_lI, e_lJ, e_lD, e_lA, e_lA0, e_sI, e_sJ, e_sD, e_sA, e_sA0, e_inc, e_I2, e_I2z, e_I1, e_I2J, e_J2I, e_I2D, e_J2, e_lcmp, e_dcmp, e_ddiv, e_ifeq, e_iceq, e_ifne, e_icne, e_iflt, e_iclt, e_ifge, e_icge, e_ifgt, e_icgt, e_ifle, e_icle, e_ca, e_ca2, e_en, e_en0, e_sw, e_lk0, e_lk, e_dup, e_dup2, e_pop, e_ci, e_cj, e_cd, e_cr, e_c0, e_gf, e_gf2, e_gf3, e_pf, e_pf2, e_f0, e_f1, e_f2, e_f20, e_len, e_len2, e_al, e_al2, e_al3, e_alJ, e_alJ2, e_alJ3, e_alA, e_alA2, e_alA3, e_as, e_as2, e_as3, e_asB, e_asB2, e_asJ, e_asJ2, e_asJ3, e_asA, e_asA2, e_asA3, e_new, e_na, e_na2, e_cat0, e_cat1, e_tk0, e_tk1, e_tk2, e_tk3, e_tk4, e_tk5, e_tk6, e_tk7, e_tk8, e_cS, e_cS2, e_cI_0, e_cI_1, e_cI_2, e_cI_3, e_cI_4, e_cI_5, e_cI2, e_cV_0, e_cV_1, e_cV_2, e_cV_3, e_cV_4, e_cV_5, e_cV_6, e_cV_7, e_cV2, e_cV3, e_oi, e_cp, e_r0, e_r1, e_r2, e_r3, e_r4, e_r5, e_r6, e_r60, e_r7, e_W1, e_W2, e_A1, e_A2, e_Wg, e_Ag, e_rf0, e_rf1, e_len0, e_len1, e_vl0, e_vl1, z00, z10, z11, ↓reduceIte, List.getElem?_cons_zero, List.getElem?_cons_succ, List.set_cons_zero, List.set_cons_succ, and_true, true_and, and_self, or_true, true_or, or_false, false_or, Nat.reduceAdd, Nat.reduceSub, Nat.reduceLT, Nat.reduceLeDiff, Nat.reduceEqDiff, Nat.reduceBEq, beq_self_eq_true, Bool.or_false, Bool.false_or, Bool.or_true, Bool.true_or, not_true, not_false_eq_true, reduceCtorEq, s1566_0, s1566_1, s1566_4, s1566_7, s1566_8, md_n, mM, hM, hd1, cal (n1567 _) (h1 _)]
  | true =>
    rw [pSeq_t hb1] at hsf ⊢
    rw [sf_app] at hsf
    have h1 := hp1 hsf.1
    simp only [hb1, bI_t] at h1
    have t2 : rTk (runR num R (part (rTk R)).2) = rTk R + skN (part (rTk R)).2 := run_tk num _ R
    have d2 : rDp (runR num R (part (rTk R)).2) = rDp R := (run_dp num _ R).trans (hD _ hb1 _)
    have L := fun Q => r_sumL (Q := Q) H hE hd hp hB hD (401 - (rTk R + skN (part (rTk R)).2)) (runR num R (part (rTk R)).2) none (by rw [t2]; exact hB1) (by rw [d2]; exact hDp) (by rw [t2]; exact Nat.le_refl _) (by rw [t2]; exact hsf.2)
    rw [t2] at L
    simp only [runR_app]
    simp only [WP_eq, e_go, e_none, e_ite, e_thr0, e_ret, e_thr, e_call, e_Kv, e_Kn, e_Kx, e_K2, e_K20, e_at0, e_s1_0, e_s2_0, e_at1, e_s1_1, e_s2_1, e_at2, e_s1_2, e_s2_2, e_at3, e_s1_3, e_s2_3, e_at4, e_s1_4, e_s2_4, e_at5, e_s1_5, e_s2_5, e_at6, e_s1_6, e_s2_6, e_at7, e_s1_7, e_s2_7, e_at8, e_s1_8, e_s2_8, e_at9, e_s1_9, e_s2_9, e_at10, e_s1_10, e_s2_10, e_at11, e_s1_11, e_s2_11, e_at12, e_s1_12, e_s2_12, e_at13, e_s1_13, e_s2_13, e_kn, e_ki, e_kj, e_kd, e_kr, e_k0, e_lI, e_lJ, e_lD, e_lA, e_lA0, e_sI, e_sJ, e_sD, e_sA, e_sA0, e_inc, e_I2, e_I2z, e_I1, e_I2J, e_J2I, e_I2D, e_J2, e_lcmp, e_dcmp, e_ddiv, e_ifeq, e_iceq, e_ifne, e_icne, e_iflt, e_iclt, e_ifge, e_icge, e_ifgt, e_icgt, e_ifle, e_icle, e_ca, e_ca2, e_en, e_en0, e_sw, e_lk0, e_lk, e_dup, e_dup2, e_pop, e_ci, e_cj, e_cd, e_cr, e_c0, e_gf, e_gf2, e_gf3, e_pf, e_pf2, e_f0, e_f1, e_f2, e_f20, e_len, e_len2, e_al, e_al2, e_al3, e_alJ, e_alJ2, e_alJ3, e_alA, e_alA2, e_alA3, e_as, e_as2, e_as3, e_asB, e_asB2, e_asJ, e_asJ2, e_asJ3, e_asA, e_asA2, e_asA3, e_new, e_na, e_na2, e_cat0, e_cat1, e_tk0, e_tk1, e_tk2, e_tk3, e_tk4, e_tk5, e_tk6, e_tk7, e_tk8, e_cS, e_cS2, e_cI_0, e_cI_1, e_cI_2, e_cI_3, e_cI_4, e_cI_5, e_cI2, e_cV_0, e_cV_1, e_cV_2, e_cV_3, e_cV_4, e_cV_5, e_cV_6, e_cV_7, e_cV2, e_cV3, e_oi, e_cp, e_r0, e_r1, e_r2, e_r3, e_r4, e_r5, e_r6, e_r60, e_r7, e_W1, e_W2, e_A1, e_A2, e_Wg, e_Ag, e_rf0, e_rf1, e_len0, e_len1, e_vl0, e_vl1, z00, z10, z11, ↓reduceIte, List.getElem?_cons_zero, List.getElem?_cons_succ, List.set_cons_zero, List.set_cons_succ, and_true, true_and, and_self, or_true, true_or, or_false, false_or, Nat.reduceAdd, Nat.reduceSub, Nat.reduceLT, Nat.reduceLeDiff, Nat.reduceEqDiff, Nat.reduceBEq, beq_self_eq_true, Bool.or_false, Bool.false_or, Bool.or_true, Bool.true_or, not_true, not_false_eq_true, reduceCtorEq, s1566_0, s1566_1, s1566_4, s1566_7, s1566_8, md_n, mM, hM, hd1, cal (n1567 _) (h1 _)]
    exact stk (L _)
theorem r_prodL {d e : Nat} {part : Nat → PR} {σ : mxS} {M kn fr mn rl mt g NT : Nat} {kd : Nat → Nat} {kf ff nf : Nat → Int32} {m0 m1 m2 m3 m11 m13 m14 m15 : Value} {num : Nat → Int32} (H : mdC σ M kn fr mn rl mt g kd NT kf ff nf) (hE : kd NT = 45 ∨ kd NT = 46) (hd : 2 ≤ d) (hp : rP σ m0 m1 m2 m3 m11 m13 m14 m15 M kn fr mn rl mt g NT num e (d - 1) 1569 [some (.ref M), none] part) (hB : pB NT part) (hD : pD part) : ∀ m R (v1 : Option Value), rTk R ≤ NT → rDp R + e = 8 → 401 - rTk R ≤ m → sfR num R (pLoop kd 35 36 part m (rTk R)).2 → ∀ {Q : Option Value ⊕ Nat → mxS → Prop}, WP d 1567 9 [some (.ref M), v1] [] (mdW σ m0 m1 m2 m3 m11 m13 m14 m15 M kn fr mn rl mt g R) Q = Q (.inl (some (.int (bI (pLoop kd 35 36 part m (rTk R)).1)))) (mdW σ m0 m1 m2 m3 m11 m13 m14 m15 M kn fr mn rl mt g (runR num R (pLoop kd 35 36 part m (rTk R)).2)) := by
  have mM := fun R => md_M (m0 := m0) (m1 := m1) (m2 := m2) (m3 := m3) (m11 := m11) (m13 := m13) (m14 := m14) (m15 := m15) H R
  have mS := fun R => md_sk (m0 := m0) (m1 := m1) (m2 := m2) (m3 := m3) (m11 := m11) (m13 := m13) (m14 := m14) (m15 := m15) H R
  have hM := H.1.1
  have hN4 := H.2.2.2.2
  have hd1 : 1 ≤ d := by omega
  have hdm1 : 1 ≤ d - 1 := by omega
  intro m
  induction m with
  | zero =>
    intro R v1 hR hDp hm _ Q
    omega
  | succ m ih =>
    intro R v1 hR hDp hm hsf Q
    have hA := fun Q => m_isSign (m0 := m0) (m1 := m1) (m2 := m2) (m3 := m3) (m11 := m11) (m13 := m13) (m14 := m14) (m15 := m15) (Q := Q) (k := 35) (c := 42) (d := d - 1) H hR (by decide) rfl
    have hBb := fun Q => m_isSign (m0 := m0) (m1 := m1) (m2 := m2) (m3 := m3) (m11 := m11) (m13 := m13) (m14 := m14) (m15 := m15) (Q := Q) (k := 36) (c := 47) (d := d - 1) H hR (by decide) rfl
    by_cases h : kd (rTk R) = 35 ∨ kd (rTk R) = 36
    · have hlt : rTk R < NT := h.elim (fun z => nt_lt hE hR z (by decide)) (fun z => nt_lt hE hR z (by decide))
      have hI1 : rTk (uSk R) ≤ NT := hlt
      have hp1 := hp (uSk R) hI1 hDp
      rw [show rTk (uSk R) = rTk R + 1 from rfl] at hp1
      have hB1 := hB (rTk R + 1) (by omega)
      cases hb1 : (part (rTk R + 1)).1 with
      | false =>
        rw [pLoop_f h hb1] at hsf ⊢
        have h1 := hp1 hsf.2
        simp only [hb1, bI_f] at h1
        conv => lhs; rw [WP_eq, s1567_9]
        rcases h with h | h
        · simp only [h, if_true] at hA
          simp only [WP_eq, e_go, e_none, e_ite, e_thr0, e_ret, e_thr, e_call, e_Kv, e_Kn, e_Kx, e_K2, e_K20, e_at0, e_s1_0, e_s2_0, e_at1, e_s1_1, e_s2_1, e_at2, e_s1_2, e_s2_2, e_at3, e_s1_3, e_s2_3, e_at4, e_s1_4, e_s2_4, e_at5, e_s1_5, e_s2_5, e_at6, e_s1_6, e_s2_6, e_at7, e_s1_7, e_s2_7, e_at8, e_s1_8, e_s2_8, e_at9, e_s1_9, e_s2_9, e_at10, e_s1_10, e_s2_10, e_at11, e_s1_11, e_s2_11, e_at12, e_s1_12, e_s2_12, e_at13, e_s1_13, e_s2_13, e_kn, e_ki, e_kj, e_kd, e_kr, e_k0, e_lI, e_lJ, e_lD, e_lA, e_lA0, e_sI, e_sJ, e_sD, e_sA, e_sA0, e_inc, e_I2, e_I2z, e_I1, e_I2J, e_J2I, e_I2D, e_J2, e_lcmp, e_dcmp, e_ddiv, e_ifeq, e_iceq, e_ifne, e_icne, e_iflt, e_iclt, e_ifge, e_icge, e_ifgt, e_icgt, e_ifle, e_icle, e_ca, e_ca2, e_en, e_en0, e_sw, e_lk0, e_lk, e_dup, e_dup2, e_pop, e_ci, e_cj, e_cd, e_cr, e_c0, e_gf, e_gf2, e_gf3, e_pf, e_pf2, e_f0, e_f1, e_f2, e_f20, e_len, e_len2, e_al, e_al2, e_al3, e_alJ, e_alJ2, e_alJ3, e_alA, e_alA2, e_alA3, e_as, e_as2, e_as3, e_asB, e_asB2, e_asJ, e_asJ2, e_asJ3, e_asA, e_asA2, e_asA3, e_new, e_na, e_na2, e_cat0, e_cat1, e_tk0, e_tk1, e_tk2, e_tk3, e_tk4, e_tk5, e_tk6, e_tk7, e_tk8, e_cS, e_cS2, e_cI_0, e_cI_1, e_cI_2, e_cI_3, e_cI_4, e_cI_5, e_cI2, e_cV_0, e_cV_1, e_cV_2, e_cV_3, e_cV_4, e_cV_5, e_cV_6, e_cV_7, e_cV2, e_cV3, e_oi, e_cp, e_r0, e_r1, e_r2, e_r3, e_r4, e_r5, e_r6, e_r60, e_r7, e_W1, e_W2, e_A1, e_A2, e_Wg, e_Ag, e_rf0, e_rf1, e_len0, e_len1, e_vl0, e_vl1, z00, z10, z11, ↓reduceIte, List.getElem?_cons_zero, List.getElem?_cons_succ, List.set_cons_zero, List.set_cons_succ, and_true, true_and, and_self, or_true, true_or, or_false, false_or, Nat.reduceAdd, Nat.reduceSub, Nat.reduceLT, Nat.reduceLeDiff, Nat.reduceEqDiff, Nat.reduceBEq, beq_self_eq_true, Bool.or_false, Bool.false_or, Bool.or_true, Bool.true_or, not_true, not_false_eq_true, reduceCtorEq, s1567_10, s1567_12, s1567_15, s1567_18, s1567_19, s1567_21, s1567_24, s1567_27, s1567_28, s1567_30, s1567_33, s1567_36, s1567_38, s1567_41, s1567_43, s1567_44, s1567_45, s1567_46, s1567_49, s1567_50, s1567_51, s1567_54, s1567_55, s1567_58, s1567_61, s1567_62, s1567_63, s1567_64, s1567_65, s1567_68, md_n, mM, mS, hM, hd1, cal (n1552 _ _) (hA _), nIm, cal (n1569 _) (h1 _), bI_f, runR_nil, runR_app, q_Sk, q_Role, q_Put, q_Num, q_Nam, q_Step, q_Look, q_Roof, q_New, q_Rng, q_Pig, q_Full, q_Ord, q_M1, q_M2, q_OB, q_OR, q_OT, q_OE, q_Deep, q_Up, List.cons_append, List.nil_append]
        · have hne : ¬ kd (rTk R) = 35 := by omega
          simp only [hne, if_false] at hA
          simp only [h, if_true] at hBb
          simp only [WP_eq, e_go, e_none, e_ite, e_thr0, e_ret, e_thr, e_call, e_Kv, e_Kn, e_Kx, e_K2, e_K20, e_at0, e_s1_0, e_s2_0, e_at1, e_s1_1, e_s2_1, e_at2, e_s1_2, e_s2_2, e_at3, e_s1_3, e_s2_3, e_at4, e_s1_4, e_s2_4, e_at5, e_s1_5, e_s2_5, e_at6, e_s1_6, e_s2_6, e_at7, e_s1_7, e_s2_7, e_at8, e_s1_8, e_s2_8, e_at9, e_s1_9, e_s2_9, e_at10, e_s1_10, e_s2_10, e_at11, e_s1_11, e_s2_11, e_at12, e_s1_12, e_s2_12, e_at13, e_s1_13, e_s2_13, e_kn, e_ki, e_kj, e_kd, e_kr, e_k0, e_lI, e_lJ, e_lD, e_lA, e_lA0, e_sI, e_sJ, e_sD, e_sA, e_sA0, e_inc, e_I2, e_I2z, e_I1, e_I2J, e_J2I, e_I2D, e_J2, e_lcmp, e_dcmp, e_ddiv, e_ifeq, e_iceq, e_ifne, e_icne, e_iflt, e_iclt, e_ifge, e_icge, e_ifgt, e_icgt, e_ifle, e_icle, e_ca, e_ca2, e_en, e_en0, e_sw, e_lk0, e_lk, e_dup, e_dup2, e_pop, e_ci, e_cj, e_cd, e_cr, e_c0, e_gf, e_gf2, e_gf3, e_pf, e_pf2, e_f0, e_f1, e_f2, e_f20, e_len, e_len2, e_al, e_al2, e_al3, e_alJ, e_alJ2, e_alJ3, e_alA, e_alA2, e_alA3, e_as, e_as2, e_as3, e_asB, e_asB2, e_asJ, e_asJ2, e_asJ3, e_asA, e_asA2, e_asA3, e_new, e_na, e_na2, e_cat0, e_cat1, e_tk0, e_tk1, e_tk2, e_tk3, e_tk4, e_tk5, e_tk6, e_tk7, e_tk8, e_cS, e_cS2, e_cI_0, e_cI_1, e_cI_2, e_cI_3, e_cI_4, e_cI_5, e_cI2, e_cV_0, e_cV_1, e_cV_2, e_cV_3, e_cV_4, e_cV_5, e_cV_6, e_cV_7, e_cV2, e_cV3, e_oi, e_cp, e_r0, e_r1, e_r2, e_r3, e_r4, e_r5, e_r6, e_r60, e_r7, e_W1, e_W2, e_A1, e_A2, e_Wg, e_Ag, e_rf0, e_rf1, e_len0, e_len1, e_vl0, e_vl1, z00, z10, z11, ↓reduceIte, List.getElem?_cons_zero, List.getElem?_cons_succ, List.set_cons_zero, List.set_cons_succ, and_true, true_and, and_self, or_true, true_or, or_false, false_or, Nat.reduceAdd, Nat.reduceSub, Nat.reduceLT, Nat.reduceLeDiff, Nat.reduceEqDiff, Nat.reduceBEq, beq_self_eq_true, Bool.or_false, Bool.false_or, Bool.or_true, Bool.true_or, not_true, not_false_eq_true, reduceCtorEq, s1567_10, s1567_12, s1567_15, s1567_18, s1567_19, s1567_21, s1567_24, s1567_27, s1567_28, s1567_30, s1567_33, s1567_36, s1567_38, s1567_41, s1567_43, s1567_44, s1567_45, s1567_46, s1567_49, s1567_50, s1567_51, s1567_54, s1567_55, s1567_58, s1567_61, s1567_62, s1567_63, s1567_64, s1567_65, s1567_68, md_n, mM, mS, hM, hd1, cal (n1552 _ _) (hA _), cal (n1552 _ _) (hBb _), nIm, cal (n1569 _) (h1 _), bI_f, runR_nil, runR_app, q_Sk, q_Role, q_Put, q_Num, q_Nam, q_Step, q_Look, q_Roof, q_New, q_Rng, q_Pig, q_Full, q_Ord, q_M1, q_M2, q_OB, q_OR, q_OT, q_OE, q_Deep, q_Up, List.cons_append, List.nil_append]
      | true =>
        rw [pLoop_t h hb1] at hsf ⊢
        have hsf2 : sfR num (uSk R) (part (rTk R + 1)).2 ∧ sfR num (runR num (uSk R) (part (rTk R + 1)).2) (aPut (kd (rTk R)) :: aStep (kd (rTk R)) 0 0 :: (pLoop kd 35 36 part m (rTk R + 1 + skN (part (rTk R + 1)).2)).2) := by
          have := hsf.2
          rw [sf_app] at this
          exact this
        have h1 := hp1 hsf2.1
        simp only [hb1, bI_t] at h1
        have t2 : rTk (runR num (uSk R) (part (rTk R + 1)).2) = rTk R + 1 + skN (part (rTk R + 1)).2 := run_tk num _ (uSk R)
        have d2 : rDp (runR num (uSk R) (part (rTk R + 1)).2) = rDp R := (run_dp num _ (uSk R)).trans (hD _ hb1 _)
        generalize hR2 : runR num (uSk R) (part (rTk R + 1)).2 = R2 at *
        have hs8 : rSz R2 < 800 := hsf2.2.1.1 (Or.inl rfl)
        have hR2N : rTk R2 ≤ NT := by rw [t2]; exact hB1
        conv => lhs; rw [WP_eq, s1567_9]
        rcases h with h | h
        · have IH := fun v Q => ih (uWord (nI 36) R2) v hR2N (by show rDp R2 + e = 8; rw [d2]; exact hDp) (by show 401 - rTk R2 ≤ m; rw [t2]; omega) (by
            show sfR num (uWord (nI 36) R2) (pLoop kd 35 36 part m (rTk R2)).2
            rw [t2]
            have := hsf2.2.2.2
            rw [h] at this
            exact this) (Q := Q)
          rw [show rTk (uWord (nI 36) R2) = rTk R2 from rfl, t2] at IH
          simp only [h, if_true] at hA
          have eC : cdR 35 = 36 := rfl
          simp only [WP_eq, e_go, e_none, e_ite, e_thr0, e_ret, e_thr, e_call, e_Kv, e_Kn, e_Kx, e_K2, e_K20, e_at0, e_s1_0, e_s2_0, e_at1, e_s1_1, e_s2_1, e_at2, e_s1_2, e_s2_2, e_at3, e_s1_3, e_s2_3, e_at4, e_s1_4, e_s2_4, e_at5, e_s1_5, e_s2_5, e_at6, e_s1_6, e_s2_6, e_at7, e_s1_7, e_s2_7, e_at8, e_s1_8, e_s2_8, e_at9, e_s1_9, e_s2_9, e_at10, e_s1_10, e_s2_10, e_at11, e_s1_11, e_s2_11, e_at12, e_s1_12, e_s2_12, e_at13, e_s1_13, e_s2_13, e_kn, e_ki, e_kj, e_kd, e_kr, e_k0, e_lI, e_lJ, e_lD, e_lA, e_lA0, e_sI, e_sJ, e_sD, e_sA, e_sA0, e_inc, e_I2, e_I2z, e_I1, e_I2J, e_J2I, e_I2D, e_J2, e_lcmp, e_dcmp, e_ddiv, e_ifeq, e_iceq, e_ifne, e_icne, e_iflt, e_iclt, e_ifge, e_icge, e_ifgt, e_icgt, e_ifle, e_icle, e_ca, e_ca2, e_en, e_en0, e_sw, e_lk0, e_lk, e_dup, e_dup2, e_pop, e_ci, e_cj, e_cd, e_cr, e_c0, e_gf, e_gf2, e_gf3, e_pf, e_pf2, e_f0, e_f1, e_f2, e_f20, e_len, e_len2, e_al, e_al2, e_al3, e_alJ, e_alJ2, e_alJ3, e_alA, e_alA2, e_alA3, e_as, e_as2, e_as3, e_asB, e_asB2, e_asJ, e_asJ2, e_asJ3, e_asA, e_asA2, e_asA3, e_new, e_na, e_na2, e_cat0, e_cat1, e_tk0, e_tk1, e_tk2, e_tk3, e_tk4, e_tk5, e_tk6, e_tk7, e_tk8, e_cS, e_cS2, e_cI_0, e_cI_1, e_cI_2, e_cI_3, e_cI_4, e_cI_5, e_cI2, e_cV_0, e_cV_1, e_cV_2, e_cV_3, e_cV_4, e_cV_5, e_cV_6, e_cV_7, e_cV2, e_cV3, e_oi, e_cp, e_r0, e_r1, e_r2, e_r3, e_r4, e_r5, e_r6, e_r60, e_r7, e_W1, e_W2, e_A1, e_A2, e_Wg, e_Ag, e_rf0, e_rf1, e_len0, e_len1, e_vl0, e_vl1, z00, z10, z11, ↓reduceIte, List.getElem?_cons_zero, List.getElem?_cons_succ, List.set_cons_zero, List.set_cons_succ, and_true, true_and, and_self, or_true, true_or, or_false, false_or, Nat.reduceAdd, Nat.reduceSub, Nat.reduceLT, Nat.reduceLeDiff, Nat.reduceEqDiff, Nat.reduceBEq, beq_self_eq_true, Bool.or_false, Bool.false_or, Bool.or_true, Bool.true_or, not_true, not_false_eq_true, reduceCtorEq, s1567_10, s1567_12, s1567_15, s1567_18, s1567_19, s1567_21, s1567_24, s1567_27, s1567_28, s1567_30, s1567_33, s1567_36, s1567_38, s1567_41, s1567_43, s1567_44, s1567_45, s1567_46, s1567_49, s1567_50, s1567_51, s1567_54, s1567_55, s1567_58, s1567_61, s1567_62, s1567_63, s1567_64, s1567_65, s1567_68, md_n, mM, mS, hM, hd1, cal (n1552 _ _) (hA _), nIm, cal (n1569 _) (h1 _), cal (n1556 _ _) (m_put (m0 := m0) (m1 := m1) (m2 := m2) (m3 := m3) (m11 := m11) (m13 := m13) (m14 := m14) (m15 := m15) (d := d - 1) (x := nI 36) H hR2N hs8), bI_t, runR_nil, runR_app, q_Sk, q_Role, q_Put, q_Num, q_Nam, q_Step, q_Look, q_Roof, q_New, q_Rng, q_Pig, q_Full, q_Ord, q_M1, q_M2, q_OB, q_OR, q_OT, q_OE, q_Deep, q_Up, List.cons_append, List.nil_append, hR2, h, eC]
          exact stk (IH _ _)
        · have IH := fun v Q => ih (uWord (nI 37) R2) v hR2N (by show rDp R2 + e = 8; rw [d2]; exact hDp) (by show 401 - rTk R2 ≤ m; rw [t2]; omega) (by
            show sfR num (uWord (nI 37) R2) (pLoop kd 35 36 part m (rTk R2)).2
            rw [t2]
            have := hsf2.2.2.2
            rw [h] at this
            exact this) (Q := Q)
          rw [show rTk (uWord (nI 37) R2) = rTk R2 from rfl, t2] at IH
          have hne : ¬ kd (rTk R) = 35 := by omega
          simp only [hne, if_false] at hA
          simp only [h, if_true] at hBb
          have eC : cdR 36 = 37 := rfl
          simp only [WP_eq, e_go, e_none, e_ite, e_thr0, e_ret, e_thr, e_call, e_Kv, e_Kn, e_Kx, e_K2, e_K20, e_at0, e_s1_0, e_s2_0, e_at1, e_s1_1, e_s2_1, e_at2, e_s1_2, e_s2_2, e_at3, e_s1_3, e_s2_3, e_at4, e_s1_4, e_s2_4, e_at5, e_s1_5, e_s2_5, e_at6, e_s1_6, e_s2_6, e_at7, e_s1_7, e_s2_7, e_at8, e_s1_8, e_s2_8, e_at9, e_s1_9, e_s2_9, e_at10, e_s1_10, e_s2_10, e_at11, e_s1_11, e_s2_11, e_at12, e_s1_12, e_s2_12, e_at13, e_s1_13, e_s2_13, e_kn, e_ki, e_kj, e_kd, e_kr, e_k0, e_lI, e_lJ, e_lD, e_lA, e_lA0, e_sI, e_sJ, e_sD, e_sA, e_sA0, e_inc, e_I2, e_I2z, e_I1, e_I2J, e_J2I, e_I2D, e_J2, e_lcmp, e_dcmp, e_ddiv, e_ifeq, e_iceq, e_ifne, e_icne, e_iflt, e_iclt, e_ifge, e_icge, e_ifgt, e_icgt, e_ifle, e_icle, e_ca, e_ca2, e_en, e_en0, e_sw, e_lk0, e_lk, e_dup, e_dup2, e_pop, e_ci, e_cj, e_cd, e_cr, e_c0, e_gf, e_gf2, e_gf3, e_pf, e_pf2, e_f0, e_f1, e_f2, e_f20, e_len, e_len2, e_al, e_al2, e_al3, e_alJ, e_alJ2, e_alJ3, e_alA, e_alA2, e_alA3, e_as, e_as2, e_as3, e_asB, e_asB2, e_asJ, e_asJ2, e_asJ3, e_asA, e_asA2, e_asA3, e_new, e_na, e_na2, e_cat0, e_cat1, e_tk0, e_tk1, e_tk2, e_tk3, e_tk4, e_tk5, e_tk6, e_tk7, e_tk8, e_cS, e_cS2, e_cI_0, e_cI_1, e_cI_2, e_cI_3, e_cI_4, e_cI_5, e_cI2, e_cV_0, e_cV_1, e_cV_2, e_cV_3, e_cV_4, e_cV_5, e_cV_6, e_cV_7, e_cV2, e_cV3, e_oi, e_cp, e_r0, e_r1, e_r2, e_r3, e_r4, e_r5, e_r6, e_r60, e_r7, e_W1, e_W2, e_A1, e_A2, e_Wg, e_Ag, e_rf0, e_rf1, e_len0, e_len1, e_vl0, e_vl1, z00, z10, z11, ↓reduceIte, List.getElem?_cons_zero, List.getElem?_cons_succ, List.set_cons_zero, List.set_cons_succ, and_true, true_and, and_self, or_true, true_or, or_false, false_or, Nat.reduceAdd, Nat.reduceSub, Nat.reduceLT, Nat.reduceLeDiff, Nat.reduceEqDiff, Nat.reduceBEq, beq_self_eq_true, Bool.or_false, Bool.false_or, Bool.or_true, Bool.true_or, not_true, not_false_eq_true, reduceCtorEq, s1567_10, s1567_12, s1567_15, s1567_18, s1567_19, s1567_21, s1567_24, s1567_27, s1567_28, s1567_30, s1567_33, s1567_36, s1567_38, s1567_41, s1567_43, s1567_44, s1567_45, s1567_46, s1567_49, s1567_50, s1567_51, s1567_54, s1567_55, s1567_58, s1567_61, s1567_62, s1567_63, s1567_64, s1567_65, s1567_68, md_n, mM, mS, hM, hd1, cal (n1552 _ _) (hA _), cal (n1552 _ _) (hBb _), nIm, cal (n1569 _) (h1 _), cal (n1556 _ _) (m_put (m0 := m0) (m1 := m1) (m2 := m2) (m3 := m3) (m11 := m11) (m13 := m13) (m14 := m14) (m15 := m15) (d := d - 1) (x := nI 37) H hR2N hs8), bI_t, runR_nil, runR_app, q_Sk, q_Role, q_Put, q_Num, q_Nam, q_Step, q_Look, q_Roof, q_New, q_Rng, q_Pig, q_Full, q_Ord, q_M1, q_M2, q_OB, q_OR, q_OT, q_OE, q_Deep, q_Up, List.cons_append, List.nil_append, hR2, h, eC]
          exact stk (IH _ _)
    · have n1 : ¬ kd (rTk R) = 35 := fun z => h (Or.inl z)
      have n2 : ¬ kd (rTk R) = 36 := fun z => h (Or.inr z)
      rw [pLoop_0 h]
      simp only [n1, if_false] at hA
      simp only [n2, if_false] at hBb
      conv => lhs; rw [WP_eq, s1567_9]
      simp only [WP_eq, e_go, e_none, e_ite, e_thr0, e_ret, e_thr, e_call, e_Kv, e_Kn, e_Kx, e_K2, e_K20, e_at0, e_s1_0, e_s2_0, e_at1, e_s1_1, e_s2_1, e_at2, e_s1_2, e_s2_2, e_at3, e_s1_3, e_s2_3, e_at4, e_s1_4, e_s2_4, e_at5, e_s1_5, e_s2_5, e_at6, e_s1_6, e_s2_6, e_at7, e_s1_7, e_s2_7, e_at8, e_s1_8, e_s2_8, e_at9, e_s1_9, e_s2_9, e_at10, e_s1_10, e_s2_10, e_at11, e_s1_11, e_s2_11, e_at12, e_s1_12, e_s2_12, e_at13, e_s1_13, e_s2_13, e_kn, e_ki, e_kj, e_kd, e_kr, e_k0, e_lI, e_lJ, e_lD, e_lA, e_lA0, e_sI, e_sJ, e_sD, e_sA, e_sA0, e_inc, e_I2, e_I2z, e_I1, e_I2J, e_J2I, e_I2D, e_J2, e_lcmp, e_dcmp, e_ddiv, e_ifeq, e_iceq, e_ifne, e_icne, e_iflt, e_iclt, e_ifge, e_icge, e_ifgt, e_icgt, e_ifle, e_icle, e_ca, e_ca2, e_en, e_en0, e_sw, e_lk0, e_lk, e_dup, e_dup2, e_pop, e_ci, e_cj, e_cd, e_cr, e_c0, e_gf, e_gf2, e_gf3, e_pf, e_pf2, e_f0, e_f1, e_f2, e_f20, e_len, e_len2, e_al, e_al2, e_al3, e_alJ, e_alJ2, e_alJ3, e_alA, e_alA2, e_alA3, e_as, e_as2, e_as3, e_asB, e_asB2, e_asJ, e_asJ2, e_asJ3, e_asA, e_asA2, e_asA3, e_new, e_na, e_na2, e_cat0, e_cat1, e_tk0, e_tk1, e_tk2, e_tk3, e_tk4, e_tk5, e_tk6, e_tk7, e_tk8, e_cS, e_cS2, e_cI_0, e_cI_1, e_cI_2, e_cI_3, e_cI_4, e_cI_5, e_cI2, e_cV_0, e_cV_1, e_cV_2, e_cV_3, e_cV_4, e_cV_5, e_cV_6, e_cV_7, e_cV2, e_cV3, e_oi, e_cp, e_r0, e_r1, e_r2, e_r3, e_r4, e_r5, e_r6, e_r60, e_r7, e_W1, e_W2, e_A1, e_A2, e_Wg, e_Ag, e_rf0, e_rf1, e_len0, e_len1, e_vl0, e_vl1, z00, z10, z11, ↓reduceIte, List.getElem?_cons_zero, List.getElem?_cons_succ, List.set_cons_zero, List.set_cons_succ, and_true, true_and, and_self, or_true, true_or, or_false, false_or, Nat.reduceAdd, Nat.reduceSub, Nat.reduceLT, Nat.reduceLeDiff, Nat.reduceEqDiff, Nat.reduceBEq, beq_self_eq_true, Bool.or_false, Bool.false_or, Bool.or_true, Bool.true_or, not_true, not_false_eq_true, reduceCtorEq, s1567_10, s1567_12, s1567_15, s1567_18, s1567_19, s1567_21, s1567_24, s1567_27, s1567_28, s1567_30, s1567_33, s1567_36, s1567_38, s1567_41, s1567_43, s1567_44, s1567_45, s1567_46, s1567_49, s1567_50, s1567_51, s1567_54, s1567_55, s1567_58, s1567_61, s1567_62, s1567_63, s1567_64, s1567_65, s1567_68, s1567_71, s1567_72, md_n, mM, hM, hd1, cal (n1552 _ _) (hA _), cal (n1552 _ _) (hBb _), pOk, bI_t, runR_nil, runR_app, q_Sk, q_Role, q_Put, q_Num, q_Nam, q_Step, q_Look, q_Roof, q_New, q_Rng, q_Pig, q_Full, q_Ord, q_M1, q_M2, q_OB, q_OR, q_OT, q_OE, q_Deep, q_Up, List.cons_append, List.nil_append]
theorem r_prod {d e : Nat} {part : Nat → PR} {σ : mxS} {M kn fr mn rl mt g NT : Nat} {kd : Nat → Nat} {kf ff nf : Nat → Int32} {m0 m1 m2 m3 m11 m13 m14 m15 : Value} {num : Nat → Int32} (H : mdC σ M kn fr mn rl mt g kd NT kf ff nf) (hE : kd NT = 45 ∨ kd NT = 46) (hd : 2 ≤ d) (hp : rP σ m0 m1 m2 m3 m11 m13 m14 m15 M kn fr mn rl mt g NT num e (d - 1) 1569 [some (.ref M), none] part) (hB : pB NT part) (hD : pD part) : rP σ m0 m1 m2 m3 m11 m13 m14 m15 M kn fr mn rl mt g NT num e d 1567 [some (.ref M), none] (pMany kd 35 36 part) := by
  intro R hR hDp hsf Q
  have mM := fun R => md_M (m0 := m0) (m1 := m1) (m2 := m2) (m3 := m3) (m11 := m11) (m13 := m13) (m14 := m14) (m15 := m15) H R
  have hM := H.1.1
  have hd1 : 1 ≤ d := by omega
  have hp1 := hp R hR hDp
  have hB1 := hB (rTk R) hR
  unfold pMany at hsf ⊢
  cases hb1 : (part (rTk R)).1 with
  | false =>
    rw [pSeq_f hb1] at hsf ⊢
    have h1 := hp1 hsf
    simp only [hb1, bI_f] at h1 ⊢
    simp only [WP_eq, e_go, e_none, e_ite, e_thr0, e_ret, e_thr, e_call, e_Kv, e_Kn, e_Kx, e_K2, e_K20, e_at0, e_s1_0, e_s2_0, e_at1, e_s1_1, e_s2_1, e_at2, e_s1_2, e_s2_2, e_at3, e_s1_3, e_s2_3, e_at4, e_s1_4, e_s2_4, e_at5, e_s1_5, e_s2_5, e_at6, e_s1_6, e_s2_6, e_at7, e_s1_7, e_s2_7, e_at8, e_s1_8, e_s2_8, e_at9, e_s1_9, e_s2_9, e_at10, e_s1_10, e_s2_10, e_at11, e_s1_11, e_s2_11, e_at12, e_s1_12, e_s2_12, e_at13, e_s1_13, e_s2_13, e_kn, e_ki, e_kj, e_kd, e_kr, e_k0, e_lI, e_lJ, e_lD, e_lA, e_lA0, e_sI, e_sJ, e_sD, e_sA, e_sA0, e_inc, e_I2, e_I2z, e_I1, e_I2J, e_J2I, e_I2D, e_J2, e_lcmp, e_dcmp, e_ddiv, e_ifeq, e_iceq, e_ifne, e_icne, e_iflt, e_iclt, e_ifge, e_icge, e_ifgt, e_icgt, e_ifle, e_icle, e_ca, e_ca2, e_en, e_en0, e_sw, e_lk0, e_lk, e_dup, e_dup2, e_pop, e_ci, e_cj, e_cd, e_cr, e_c0, e_gf, e_gf2, e_gf3, e_pf, e_pf2, e_f0, e_f1, e_f2, e_f20, e_len, e_len2, e_al, e_al2, e_al3, e_alJ, e_alJ2, e_alJ3, e_alA, e_alA2, e_alA3, e_as, e_as2, e_as3, e_asB, e_asB2, e_asJ, e_asJ2, e_asJ3, e_asA, e_asA2, e_asA3, e_new, e_na, e_na2, e_cat0, e_cat1, e_tk0, e_tk1, e_tk2, e_tk3, e_tk4, e_tk5, e_tk6, e_tk7, e_tk8, e_cS, e_cS2, e_cI_0, e_cI_1, e_cI_2, e_cI_3, e_cI_4, e_cI_5, e_cI2, e_cV_0, e_cV_1, e_cV_2, e_cV_3, e_cV_4, e_cV_5, e_cV_6, e_cV_7, e_cV2, e_cV3, e_oi, e_cp, e_r0, e_r1, e_r2, e_r3, e_r4, e_r5, e_r6, e_r60, e_r7, e_W1, e_W2, e_A1, e_A2, e_Wg, e_Ag, e_rf0, e_rf1, e_len0, e_len1, e_vl0, e_vl1, z00, z10, z11, ↓reduceIte, List.getElem?_cons_zero, List.getElem?_cons_succ, List.set_cons_zero, List.set_cons_succ, and_true, true_and, and_self, or_true, true_or, or_false, false_or, Nat.reduceAdd, Nat.reduceSub, Nat.reduceLT, Nat.reduceLeDiff, Nat.reduceEqDiff, Nat.reduceBEq, beq_self_eq_true, Bool.or_false, Bool.false_or, Bool.or_true, Bool.true_or, not_true, not_false_eq_true, reduceCtorEq, s1567_0, s1567_1, s1567_4, s1567_7, s1567_8, md_n, mM, hM, hd1, cal (n1569 _) (h1 _)]
  | true =>
    rw [pSeq_t hb1] at hsf ⊢
    rw [sf_app] at hsf
    have h1 := hp1 hsf.1
    simp only [hb1, bI_t] at h1
    have t2 : rTk (runR num R (part (rTk R)).2) = rTk R + skN (part (rTk R)).2 := run_tk num _ R
    have d2 : rDp (runR num R (part (rTk R)).2) = rDp R := (run_dp num _ R).trans (hD _ hb1 _)
    have L := fun Q => r_prodL (Q := Q) H hE hd hp hB hD (401 - (rTk R + skN (part (rTk R)).2)) (runR num R (part (rTk R)).2) none (by rw [t2]; exact hB1) (by rw [d2]; exact hDp) (by rw [t2]; exact Nat.le_refl _) (by rw [t2]; exact hsf.2)
    rw [t2] at L
    simp only [runR_app]
    simp only [WP_eq, e_go, e_none, e_ite, e_thr0, e_ret, e_thr, e_call, e_Kv, e_Kn, e_Kx, e_K2, e_K20, e_at0, e_s1_0, e_s2_0, e_at1, e_s1_1, e_s2_1, e_at2, e_s1_2, e_s2_2, e_at3, e_s1_3, e_s2_3, e_at4, e_s1_4, e_s2_4, e_at5, e_s1_5, e_s2_5, e_at6, e_s1_6, e_s2_6, e_at7, e_s1_7, e_s2_7, e_at8, e_s1_8, e_s2_8, e_at9, e_s1_9, e_s2_9, e_at10, e_s1_10, e_s2_10, e_at11, e_s1_11, e_s2_11, e_at12, e_s1_12, e_s2_12, e_at13, e_s1_13, e_s2_13, e_kn, e_ki, e_kj, e_kd, e_kr, e_k0, e_lI, e_lJ, e_lD, e_lA, e_lA0, e_sI, e_sJ, e_sD, e_sA, e_sA0, e_inc, e_I2, e_I2z, e_I1, e_I2J, e_J2I, e_I2D, e_J2, e_lcmp, e_dcmp, e_ddiv, e_ifeq, e_iceq, e_ifne, e_icne, e_iflt, e_iclt, e_ifge, e_icge, e_ifgt, e_icgt, e_ifle, e_icle, e_ca, e_ca2, e_en, e_en0, e_sw, e_lk0, e_lk, e_dup, e_dup2, e_pop, e_ci, e_cj, e_cd, e_cr, e_c0, e_gf, e_gf2, e_gf3, e_pf, e_pf2, e_f0, e_f1, e_f2, e_f20, e_len, e_len2, e_al, e_al2, e_al3, e_alJ, e_alJ2, e_alJ3, e_alA, e_alA2, e_alA3, e_as, e_as2, e_as3, e_asB, e_asB2, e_asJ, e_asJ2, e_asJ3, e_asA, e_asA2, e_asA3, e_new, e_na, e_na2, e_cat0, e_cat1, e_tk0, e_tk1, e_tk2, e_tk3, e_tk4, e_tk5, e_tk6, e_tk7, e_tk8, e_cS, e_cS2, e_cI_0, e_cI_1, e_cI_2, e_cI_3, e_cI_4, e_cI_5, e_cI2, e_cV_0, e_cV_1, e_cV_2, e_cV_3, e_cV_4, e_cV_5, e_cV_6, e_cV_7, e_cV2, e_cV3, e_oi, e_cp, e_r0, e_r1, e_r2, e_r3, e_r4, e_r5, e_r6, e_r60, e_r7, e_W1, e_W2, e_A1, e_A2, e_Wg, e_Ag, e_rf0, e_rf1, e_len0, e_len1, e_vl0, e_vl1, z00, z10, z11, ↓reduceIte, List.getElem?_cons_zero, List.getElem?_cons_succ, List.set_cons_zero, List.set_cons_succ, and_true, true_and, and_self, or_true, true_or, or_false, false_or, Nat.reduceAdd, Nat.reduceSub, Nat.reduceLT, Nat.reduceLeDiff, Nat.reduceEqDiff, Nat.reduceBEq, beq_self_eq_true, Bool.or_false, Bool.false_or, Bool.or_true, Bool.true_or, not_true, not_false_eq_true, reduceCtorEq, s1567_0, s1567_1, s1567_4, s1567_7, s1567_8, md_n, mM, hM, hd1, cal (n1569 _) (h1 _)]
    exact stk (L _)
