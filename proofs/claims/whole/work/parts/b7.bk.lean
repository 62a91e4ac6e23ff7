/-! ===== both readers: the whole book ===== -/
theorem seq_ok {i : Nat} {a : PR} {f : Nat → PR} (h : (pSeq i a f).1 = true) : a.1 = true ∧ (f (i + skN a.2)).1 = true ∧ (pSeq i a f).2 = a.2 ++ (f (i + skN a.2)).2 := by
  by_cases q : a.1 = true
  · rw [pSeq_t q] at h ⊢
    exact ⟨q, h, rfl⟩
  · unfold pSeq at h
    rw [if_neg q] at h
    exact absurd h q
theorem pMove_ok {kd : Nat → Nat} {j : Nat} (h : (pMove kd j).1 = true) : kd j = 43 ∧ (pMove kd j).2 = [aRole 3, aLook, aSk, aOR (pRt kd (j + 1)), aSk] := by
  unfold pMove pAs pSide at h ⊢
  by_cases h1 : kd j = 43
  · by_cases h2 : kd (j + 1) = 8 ∨ kd (j + 1) = 9
    · refine ⟨h1, ?_⟩
      simp [pSeq, pOk, pNo, h1, h2, skN, aSk, aRole, aLook, aOR]
    · simp [pSeq, pOk, pNo, h1, h2, skN, aSk, aRole, aLook, aOR] at h
  · simp [pSeq, pOk, pNo, h1, skN, aSk, aRole, aLook, aOR] at h
theorem ag_sp {c : Cx} {S : S3} {s t : List PA} {i n : Nat} (h : ag (xzf c) i 0 n (s ++ t)) (hb : S.2.2.2.1 = 0) : ag (xzf c) i 0 n s ∧ ((ruS c S s).2.2.2.1 = 0 → ag (xzf c) (i + skN s) 0 (n + (stT s).length) t) := by
  obtain ⟨h1, h2⟩ := (ag_app _ _ _ _ _ _).mp h
  refine ⟨h1, fun h3 => ?_⟩
  have e := bE_X c s S.2.2
  rw [hb] at e
  rw [ruS_e] at h3
  have : bE 0 s = 0 := e.symm.trans h3
  rw [this] at h2
  exact h2
theorem when_ty {kd : Nat → Nat} {m : Nat} (h : (pWhen kd m).1 = true) : wdT m (pWhen kd m).2 = encA (stT (pWhen kd m).2) ∧ (¬ stT (pWhen kd m).2 = [] → tyS (stT (pWhen kd m).2) [] [true]) := by
  unfold pWhen at h ⊢
  by_cases q : kd m = 10
  · rw [if_pos q] at h ⊢
    have hw : WTy m [] [true] (pSeq m (pOk [aSk]) (pTst kd 8)) := W_s (W_qt rfl rfl) (W_tev kd 8).2
    obtain ⟨h1, h2⟩ := hw h
    exact ⟨h1, fun _ => h2 []⟩
  · rw [if_neg q]
    exact ⟨rfl, fun z => absurd rfl z⟩
theorem bt_1 {kd : Nat → Nat} {i : Nat} : pRt kd i = 0 ∨ pRt kd i = 1 := by
  unfold pRt
  split
  · exact .inr rfl
  · exact .inl rfl
/-- the end of an order's line, from behind its object -/
theorem o_tail {c : Cx} {i k f j b : Nat} {st : List (Nat × Nat × Nat)} {pp : List Nat} {S : S3} {r3 : PR} (hc : xok c) (hr : r3 = pWhen (xkd c) i) (h3 : r3.1 = true) (hG : GS c i st pp S) (hF : FC c (encA st) S.2.1) (hT : rTk S.2.1 = i) (hO : pOr st k f S) (hE : i + skN r3.2 ≤ xE c) (ha : ag (xzf c) i 0 st.length ([aM2, aOT] ++ (r3.2 ++ [aOE, aOrd k j b]))) (hb : b = 0 ∨ b = 1) (hX : (k = 4 ∨ k = 5) ∧ pM c i S j b ∨ (k = 6 ∨ k = 7) ∧ tyS (seg st f (st.length - f)) [] [false]) : (LR c (i + skN r3.2) (st ++ stT r3.2) pp (ruS c S ([aM2, aOT] ++ (r3.2 ++ [aOE, aOrd k j b]))) ∧ cTc (ruS c S ([aM2, aOT] ++ (r3.2 ++ [aOE, aOrd k j b]))).1 = cTc S.1) ∨ Er (ruS c S ([aM2, aOT] ++ (r3.2 ++ [aOE, aOrd k j b]))) := by
  obtain ⟨m1, m2, m3, m4, m5, m6, m7⟩ := o_mid hG hF hT hO
  obtain ⟨_, a2⟩ := ag_sp ha hG.2.2.2.2.2.2
  have a2 := a2 m1.2.2.2.2.2.2
  have a2 : ag (xzf c) i 0 st.length (r3.2 ++ [aOE, aOrd k j b]) := a2
  obtain ⟨a3, _⟩ := ag_sp a2 m1.2.2.2.2.2.2
  rw [ruS_app, ruS_app]
  subst hr
  obtain ⟨w1, w2⟩ := when_ty h3
  rcases SmF (S_when hc i h3) w1 m1 m2 m3 hE a3 with ⟨x1, x2, x3, x4⟩ | he
  · have hlen : (st ++ stT (pWhen (xkd c) i).2).length = st.length + (stT (pWhen (xkd c) i).2).length := List.length_append
    obtain ⟨y1, y2⟩ := o_end (j := j) (b := b) x1 x2 x3 (pOr_fr m4 x4) (pT_fr m5 x4) hb hO.2.2.2.2.1 (hX.imp (fun z => ⟨z.1, pM_fr (m7 _ _ z.2) x4 (by omega)⟩) (fun z => ⟨z.1, by
      rw [seg_app (by have := hO.2.2.2.2.1; omega)]
      exact z.2⟩)) (fun hlt => by
      rw [hlen, Nat.add_sub_cancel_left, seg_end]
      refine w2 (fun z => ?_)
      rw [hlen, z] at hlt
      exact absurd hlt (by show ¬ st.length < st.length + 0; omega))
    exact .inl ⟨y1, y2.trans (x4.2.1.2.2.trans m6)⟩
  · exact .inr (Er_run he _)
theorem Ln_ord {c : Cx} (hc : xok c) {i : Nat} (hk : xkd c i = 4 ∨ xkd c i = 5 ∨ xkd c i = 6 ∨ xkd c i = 7) : LnP c i (pOrd (xkd c) i) := by
  intro hok
  unfold pOrd at hok ⊢
  obtain ⟨_, hok, et⟩ := seq_ok hok
  rw [et]
  obtain ⟨h2, hok, et⟩ := seq_ok hok
  rw [et]
  obtain ⟨_, hok, et⟩ := seq_ok hok
  rw [et]
  obtain ⟨h3, hok, et⟩ := seq_ok hok
  rw [et]
  clear et hok
  intro st pp S hL hE ha
  have ha : ag (xzf c) i 0 st.length ([aFull, aRole 2, aSk, aOB, aM1] ++ _) := ha
  have hb0 := hL.1.2.2.2.2.2.2
  obtain ⟨a1, a2⟩ := ag_sp ha hb0
  have a1 : xzf c i = 2 ∧ True := a1
  have e1 : skN (pOk [aFull, aRole 2, aSk, aOB, aM1]).2 = 1 := rfl
  simp only [e1] at h2 h3 hE ha a2 ⊢
  rw [ruS_app]
  rw [skN_app] at hE
  have hE : i + (1 + _) ≤ xE c := hE
  rcases o_beg hc hL (by omega) a1.1 rfl hk with ⟨g1, g2, g3, g4, g5⟩ | he
  · have a2 := a2 g1.2.2.2.2.2.2
    have a2 : ag (xzf c) (i + 1) 0 st.length _ := a2
    by_cases hm : xkd c i = 4 ∨ xkd c i = 5
    · simp only [if_pos hm] at h2 h3 hE a2 ⊢
      obtain ⟨p1, p2⟩ := pMove_ok h2
      simp only [p2] at h3 hE a2 ⊢
      obtain ⟨a3, a4⟩ := ag_sp a2 g1.2.2.2.2.2.2
      have a3 : xzf c (i + 1) = 3 ∧ xzf c (i + 1 + 1) = 0 ∧ True := a3
      have e2 : skN [aRole 3, aLook, aSk, aOR (pRt (xkd c) (i + 1 + 1)), aSk] = 2 := rfl
      rw [skN_app, skN_app, skN_app] at hE
      have e3 : skN (pOk [aM2, aOT]).2 = 0 := rfl
      simp only [e2, e3, Nat.add_zero] at h3 hE a4 ⊢
      rw [ruS_app]
      rcases o_mov (b := pRt (xkd c) (i + 1 + 1)) hc g1 g2 g3 g4 (by omega) a3.1 a3.2.1 p1 with ⟨q1, q2, q3, q4, q5, q6⟩ | he
      · have a4 := a4 q1.2.2.2.2.2.2
        have := o_tail hc (i := i + 3) rfl h3 q1 q2 q3 q4 (by omega) a4 bt_1 (.inl ⟨hm, q5⟩)
        rcases this with ⟨r1, r2⟩ | r1
        · refine .inl ⟨pp, ?_, r2.trans (q6.trans g5)⟩
          have e4 : i + skN ([aFull, aRole 2, aSk, aOB, aM1] ++ ([aRole 3, aLook, aSk, aOR (pRt (xkd c) (i + 1 + 1)), aSk] ++ ([aM2, aOT] ++ ((pWhen (xkd c) (i + 3)).2 ++ [aOE, aOrd (xkd c i) (i + 1) (pRt (xkd c) (i + 1 + 1))])))) = i + 3 + skN (pWhen (xkd c) (i + 3)).2 := by
            rw [skN_app, skN_app, skN_app, skN_app]
            show i + (1 + (2 + (0 + (_ + 0)))) = _
            omega
          have e5 : stT ([aFull, aRole 2, aSk, aOB, aM1] ++ ([aRole 3, aLook, aSk, aOR (pRt (xkd c) (i + 1 + 1)), aSk] ++ ([aM2, aOT] ++ ((pWhen (xkd c) (i + 3)).2 ++ [aOE, aOrd (xkd c i) (i + 1) (pRt (xkd c) (i + 1 + 1))])))) = stT (pWhen (xkd c) (i + 3)).2 := by
            rw [stT_app, stT_app, stT_app, stT_app]
            show [] ++ ([] ++ ([] ++ (_ ++ []))) = _
            rw [List.append_nil]
            rfl
          show LR c (i + skN ([aFull, aRole 2, aSk, aOB, aM1] ++ ([aRole 3, aLook, aSk, aOR (pRt (xkd c) (i + 1 + 1)), aSk] ++ ([aM2, aOT] ++ ((pWhen (xkd c) (i + 3)).2 ++ [aOE, aOrd (xkd c i) (i + 1) (pRt (xkd c) (i + 1 + 1))]))))) (st ++ stT ([aFull, aRole 2, aSk, aOB, aM1] ++ ([aRole 3, aLook, aSk, aOR (pRt (xkd c) (i + 1 + 1)), aSk] ++ ([aM2, aOT] ++ ((pWhen (xkd c) (i + 3)).2 ++ [aOE, aOrd (xkd c i) (i + 1) (pRt (xkd c) (i + 1 + 1))]))))) pp _
          rw [e4, e5]
          exact r1
        · exact .inr r1
      · exact .inr (Er_run he _)
    · simp only [if_neg hm] at h2 h3 hE a2 ⊢
      obtain ⟨w1, w2⟩ := (W_lev (xkd c) 8).2 (i + 1) h2
      have w1 : wdT (i + 1) (pSum (xkd c) 8 (i + 1)).2 = encA (stT (pSum (xkd c) 8 (i + 1)).2) := w1
      obtain ⟨a3, a4⟩ := ag_sp a2 g1.2.2.2.2.2.2
      rw [skN_app, skN_app, skN_app] at hE
      have e3 : skN (pOk [aM2, aOT]).2 = 0 := rfl
      simp only [e3, Nat.add_zero] at h3 hE a4 ⊢
      rw [ruS_app]
      rcases SmF (S_sum hc 8 (i + 1) h2) w1 g1 g2 g3 (by omega) a3 with ⟨q1, q2, q3, q4⟩ | he
      · have a4 := a4 q1.2.2.2.2.2.2
        rw [← List.length_append] at a4
        have hlen : (st ++ stT (pSum (xkd c) 8 (i + 1)).2).length = st.length + (stT (pSum (xkd c) 8 (i + 1)).2).length := List.length_append
        have := o_tail hc rfl h3 q1 q2 q3 (pOr_fr g4 q4) (by omega) a4 bt_1 (.inr ⟨by omega, by
          rw [hlen, Nat.add_sub_cancel_left, seg_end]
          exact w2 []⟩)
        rcases this with ⟨r1, r2⟩ | r1
        · refine .inl ⟨pp, ?_, r2.trans (q4.2.1.2.2.trans g5)⟩
          generalize (pSum (xkd c) 8 (i + 1)).2 = t2 at *
          generalize (pWhen (xkd c) (i + 1 + skN t2)).2 = t3 at *
          have e4 : i + skN ([aFull, aRole 2, aSk, aOB, aM1] ++ (t2 ++ ([aM2, aOT] ++ (t3 ++ [aOE, aOrd (xkd c i) (i + 1) (pRt (xkd c) (i + 1))])))) = i + 1 + skN t2 + skN t3 := by
            rw [skN_app, skN_app, skN_app, skN_app]
            show i + (1 + (_ + (0 + (_ + 0)))) = _
            omega
          have e5 : stT ([aFull, aRole 2, aSk, aOB, aM1] ++ (t2 ++ ([aM2, aOT] ++ (t3 ++ [aOE, aOrd (xkd c i) (i + 1) (pRt (xkd c) (i + 1))])))) = stT t2 ++ stT t3 := by
            rw [stT_app, stT_app, stT_app, stT_app]
            show [] ++ (_ ++ ([] ++ (_ ++ []))) = _
            rw [List.append_nil]
            rfl
          show LR c (i + skN ([aFull, aRole 2, aSk, aOB, aM1] ++ (t2 ++ ([aM2, aOT] ++ (t3 ++ [aOE, aOrd (xkd c i) (i + 1) (pRt (xkd c) (i + 1))]))))) (st ++ stT ([aFull, aRole 2, aSk, aOB, aM1] ++ (t2 ++ ([aM2, aOT] ++ (t3 ++ [aOE, aOrd (xkd c i) (i + 1) (pRt (xkd c) (i + 1))]))))) pp _
          rw [e4, e5, ← List.append_assoc]
          exact r1
        · exact .inr r1
      · exact .inr (Er_run he _)
  · exact .inr (Er_run he _)
theorem Ln_line {c : Cx} (hc : xok c) : LnG c (pLine (xkd c)) := by
  intro i
  unfold pLine
  split
  · next h => exact Ln_ord hc h
  · exact Ln_pig hc i
theorem Ln_lines {c : Cx} (hc : xok c) : ∀ m, LnG c (pLines (xkd c) m)
  | 0 => fun i _ => Ln_Sm (Sm_q _ _ rfl) rfl
  | m + 1 => fun i => by
    rw [pLines]
    split
    · exact fun _ => Ln_Sm (Sm_q _ _ rfl) rfl
    · exact Ln_seq (Ln_seq (Ln_line hc i) Ln_take) (Ln_lines hc m)
