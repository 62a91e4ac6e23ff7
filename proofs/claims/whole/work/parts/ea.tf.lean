/-! ===== calls through the law's methods: the tapes ===== -/
/-- other bytes, or another length -/
theorem rw_tape {τ' : mxS} {L' : Nat} {tb' : Nat → Int32} {τ : mxS} {L : Nat} {tb : Nat → Int32} {ep : Int32} {g : Nat} {n P O T : Nat} {K A B : Nat → Nat} {od : ODT} {h : Nat → Int32} {pl : Nat → Nat} {ls : Nat → Int32} {dy dn : Int32} (H : rwJ τ L tb ep g n P O T K A B od h pl ls dy dn) (h1 : ∀ a, a < 1000 + τ.2.1 → a ≠ 1075 → a ≠ 1076 → τ'.1 a = τ.1 a) (h2 : τ.2.1 ≤ τ'.2.1) (hM : ∃ (th m9 m10 : Int32) (m12 : Nat), τ'.1 1075 = .inr (10, .int th :: .ref 1076 :: .int (nI L') :: [.int ep, .ref 1077, .ref 1078, .ref 1079, .ref 1080, .ref 1081, .int m9, .int m10, .ref g, .ref m12, .ref 1094, .ref 1095, .ref 1098])) (hT : τ'.1 1076 = .inl (0, 2000, .inl tb')) (hL : L' ≤ 2000) : rwJ τ' L' tb' ep g n P O T K A B od h pl ls dy dn := by
  obtain ⟨⟨cN, cL', cg1, cg2, L0, xs, cK⟩, ⟨th, m9, m10, m12, cM⟩, cT, ⟨kf, ff, nf, ro, me, c0, c1, c2, c3, c4⟩, cP, ⟨ks, cks⟩, ⟨ps, cs, cps⟩, ⟨hO, pO, dO, eO, co⟩⟩ := id H
  have f : ∀ a, a < 1102 → a ≠ 1075 → a ≠ 1076 → τ'.1 a = τ.1 a := fun a x y z => h1 a (by omega) y z
  exact ⟨⟨by omega, hL, cg1, by omega, L0, xs, fun a ha => (f a (by omega) (by omega) (by omega)).trans (cK a ha)⟩, hM, hT, ⟨kf, ff, nf, ro, me, (f _ (by decide) (by decide) (by decide)).trans c0, (f _ (by decide) (by decide) (by decide)).trans c1, (f _ (by decide) (by decide) (by decide)).trans c2, (f _ (by decide) (by decide) (by decide)).trans c3, (f _ (by decide) (by decide) (by decide)).trans c4⟩, rwP_fr cP (fun a x y => h1 a (by omega) (by omega) (by omega)), ⟨ks, (f _ (by decide) (by decide) (by decide)).trans cks⟩, ⟨ps, onB_fr cs (fun a x y => f a (by omega) (by omega) (by omega)), cps⟩, ⟨hO, pO, dO, eO, onB_fr co (fun a x y => f a (by omega) (by omega) (by omega))⟩⟩
theorem frC_tp {τ : mxS} {bs : Nat → Int32} {x : Int32} : frC τ (tpW τ 1001 bs x) := frC_of (fun a y => tp_o τ 1001 bs x (by omega)) rfl
theorem tp_len {τ : mxS} {bs : Nat → Int32} {x y : Int32} (h : onB τ 1001 2 (tpG 1001 bs y)) : mxWr τ 1001 (.inr (5, [.ref 1002, .int x])) = tpW τ 1001 bs x := by
  refine Prod.ext (funext fun a => ?_) rfl
  have n0 := onB_new τ 1001 2 (tpG 1001 bs x)
  by_cases q : a = 1001
  · rw [q]
    exact (wr_s _ _ _).trans (n0 0 (by decide)).symm
  · by_cases q2 : a = 1002
    · rw [q2]
      exact ((wr_o _ _ (by decide)).trans (h 1 (by decide))).trans (n0 1 (by decide)).symm
    · exact (wr_o _ _ q).trans (tp_o τ 1001 bs x (by omega)).symm
theorem in_le (L : Nat) (y : Int32) (hL : L ≤ 2000) : (y < 0 ∨ nI L < y) ∨ ∃ j, j ≤ L ∧ y = nI j := by
  by_cases q : y < 0
  · exact .inl (.inl q)
  · obtain ⟨j, hj, rfl⟩ := nI_of q
    by_cases k : j ≤ L
    · exact .inr ⟨j, k, rfl⟩
    · exact .inl (.inr (nI_lt (show L < j by omega) hj))
theorem pb_trim (y : Int32) {τ : mxS} {L : Nat} {bs tb : Nat → Int32} {ep : Int32} {g pb g2 : Nat} {n P O T : Nat} {K A B : Nat → Nat} {od : ODT} {hs : Nat → Int32} {pl : Nat → Nat} {ls : Nat → Int32} {dy co : Int32} {h' ls' : Nat → Int32} (H : WJ τ L bs tb ep g pb g2 n P O T K A B od hs pl ls dy co h' ls') : PBr false 2561 [some (.ref 1000), some (.int y), some (.ref 1101), none] 1583 [some (.ref 1075), some (.int y)] τ := by
  obtain ⟨HC, HR, hok, ea, el, hb, o, ho⟩ := id H; obtain ⟨hok', hr, h0, hn, hP, hpl, hO, hw⟩ := w_R H; obtain ⟨tl, tr, ws, sn, ps, rn, wc, sl, sr, HB⟩ := cw_csB HC hok; obtain ⟨z, hX⟩ := w_X H; have hN := w_N H
  obtain ⟨⟨cg, cN, cL', _⟩, cX, cT, _⟩ := id HC
  have u0 : 1000 ≤ 1000 ∧ 1000 < 1000 + τ.2.1 := by omega
  have u1 : 1000 ≤ 1001 ∧ 1001 < 1000 + τ.2.1 := by omega
  have e := fun (Q : Option Value ⊕ Nat → mxS → Prop) => c_trim (d := 199 - 1) (x := y) cX u0 (cT 0 (by decide)) u1 (Q := Q)
  rcases in_le L y cL' with hy | ⟨j, hj, rfl⟩
  · obtain ⟨HC1, HR1, _⟩ := wj_th H; obtain ⟨o1, ho1⟩ := w_out H (frC_th τ); obtain ⟨_, ⟨th, m9, m10, m12, hM⟩, _⟩ := id HR1
    obtain ⟨W2, c2, e2⟩ := w_end (τ2 := (mxWr (thT τ) 1075 (.inr (10, .int (nI 1) :: .ref 1076 :: .int (nI L) :: [.int ep, .ref 1077, .ref 1078, .ref 1079, .ref 1080, .ref 1081, .int m9, .int m10, .ref g2, .ref m12, .ref 1094, .ref 1095, .ref 1098])))) (frC_th τ) (frO_id _) (frR_M _ _) hN ho1 HC1 (rw_th HR1) hok ea el hb
    have u2 : 1000 ≤ 1075 ∧ 1075 < 1000 + (thT τ).2.1 := ⟨by decide, by show 1075 < 1000 + (τ.2.1 + 1); omega⟩
    have er := fun (Q : Option Value ⊕ Nat → mxS → Prop) => m_trim (d := 199) (x := y) (by decide) hM u2 (Q := Q)
    have ee : ∀ Q, WP (199 - 1) 1154 0 [some (.ref 1000), some (.int y)] [] τ Q = Q (.inr 1) (thT τ) := fun Q => by
      rw [e Q]
      by_cases q : y < 0
      · rw [if_pos q]
        rfl
      · rw [if_neg q, if_pos (hy.resolve_left q)]
        rfl
    refine ⟨1, nI 0, thT τ, _, lx_trim1 hX hN (by decide) (fun {Q} => ee Q), fun {Q} => ?_, ⟨⟨z, hX⟩, hN, rw_M HR1, Nat.le_trans hN (frC_th τ).2.1, kq (frC_th τ) (frO_id _)⟩, W2, c2, ⟨_, wr_s _ _ _⟩, by decide, o1, e2, fun h => absurd h (by decide)⟩
    rw [er Q]
    by_cases q : y < nI 0
    · rw [if_pos q]
    · rw [if_neg q, if_pos (hy.resolve_left q)]
  · have q1 : ¬ nI j < 0 := nI_pos (by omega)
    have q2 : ¬ nI L < nI j := nI_nlt hj (by omega)
    have ee : ∀ Q, WP (199 - 1) 1154 0 [some (.ref 1000), some (.int (nI j))] [] τ Q = Q (.inl (some (.int (nI j)))) (tpW τ 1001 bs (nI j)) := fun Q => by
      rw [e Q, if_neg q1, if_neg q2, tp_len cT]
    have hf := frC_tp (τ := τ) (bs := bs) (x := nI j)
    have HC0 := cw_tape (L' := j) (bs' := bs) HC (by omega)
    generalize tpW τ 1001 bs (nI j) = τ1 at *
    obtain ⟨o1, ho1⟩ := w_out H hf
    have hN1 : 102 ≤ τ1.2.1 := Nat.le_trans hN hf.2.1
    obtain ⟨HC1, HR1⟩ := w_mid H hf HC0 (frO_w τ1 (nI j).toInt64 o1)
    obtain ⟨_, ⟨th, m9, m10, m12, hM⟩, hT, _⟩ := id HR1
    have u2 : 1000 ≤ 1075 ∧ 1075 < 1000 + (outW τ1 (nI j).toInt64 o1).2.1 := ⟨by decide, by show 1075 < 1000 + τ1.2.1; omega⟩
    have er := fun (Q : Option Value ⊕ Nat → mxS → Prop) => m_trim (d := 199) (x := nI j) (by decide) hM u2 (Q := Q)
    have HR2 := rw_tape (τ' := mxWr (outW τ1 (nI j).toInt64 o1) 1075 (.inr (10, .int (nI 0) :: .ref 1076 :: .int (nI j) :: [.int ep, .ref 1077, .ref 1078, .ref 1079, .ref 1080, .ref 1081, .int m9, .int m10, .ref g2, .ref m12, .ref 1094, .ref 1095, .ref 1098]))) (L' := j) HR1 (fun a x y z => wr_o _ _ y) (Nat.le_refl _) ⟨_, m9, m10, m12, wr_s _ _ _⟩ ((wr_o _ _ (by decide)).trans hT) (by omega)
    obtain ⟨W2, c2, e2⟩ := w_end hf (frO_w τ1 (nI j).toInt64 o1) (frR_M _ _) hN (wr_s _ _ _) HC1 HR2 hok ea el (fun k hk => hb k (by omega))
    refine ⟨0, nI j, outW τ1 (nI j).toInt64 o1, _, lw_trim hX hN ho1 hN1 (by decide) (fun {Q} => ee Q), fun {Q} => ?_, ⟨⟨z, hX⟩, hN, rw_M HR1, hN1, kq hf (frO_w τ1 _ _)⟩, W2, c2, ⟨_, wr_s _ _ _⟩, by decide, _, e2, fun _ => va_up_self _ _ _⟩
    rw [er Q, if_neg (show ¬ nI j < nI 0 from q1), if_neg q2]
theorem rf_fr {ρ : mxS} {L g2 m12 : Nat} {ep m9 m10 a b c e f : Int32} {tb : Nat → Int32} (hN : 102 ≤ ρ.2.1) : (∀ x, x < 1000 + ρ.2.1 → x ≠ 1075 → x ≠ 1076 → (mxWr (mxWr (mxgl (mxWr ρ 1075 (.inr (10, .int (nI 0) :: .ref 1076 :: .int (nI L) :: [.int ep, .ref 1077, .ref 1078, .ref 1079, .ref 1080, .ref 1081, .int m9, .int m10, .ref g2, .ref m12, .ref 1094, .ref 1095, .ref 1098]))) 5 [.inl (0, 5, .inl (fdF a b c e f))]) 1076 (.inl (0, 2000, .inl (fdT tb L (fdF a b c e f) 20)))) 1075 (.inr (10, .int (nI 0) :: .ref 1076 :: .int (nI (L + 20)) :: [.int ep, .ref 1077, .ref 1078, .ref 1079, .ref 1080, .ref 1081, .int m9, .int m10, .ref g2, .ref m12, .ref 1094, .ref 1095, .ref 1098]))).1 x = ρ.1 x) ∧ (mxWr (mxWr (mxgl (mxWr ρ 1075 (.inr (10, .int (nI 0) :: .ref 1076 :: .int (nI L) :: [.int ep, .ref 1077, .ref 1078, .ref 1079, .ref 1080, .ref 1081, .int m9, .int m10, .ref g2, .ref m12, .ref 1094, .ref 1095, .ref 1098]))) 5 [.inl (0, 5, .inl (fdF a b c e f))]) 1076 (.inl (0, 2000, .inl (fdT tb L (fdF a b c e f) 20)))) 1075 (.inr (10, .int (nI 0) :: .ref 1076 :: .int (nI (L + 20)) :: [.int ep, .ref 1077, .ref 1078, .ref 1079, .ref 1080, .ref 1081, .int m9, .int m10, .ref g2, .ref m12, .ref 1094, .ref 1095, .ref 1098]))).2 = (ρ.2.1 + 1, ρ.2.2 + 5) ∧ frR ρ (mxWr (mxWr (mxgl (mxWr ρ 1075 (.inr (10, .int (nI 0) :: .ref 1076 :: .int (nI L) :: [.int ep, .ref 1077, .ref 1078, .ref 1079, .ref 1080, .ref 1081, .int m9, .int m10, .ref g2, .ref m12, .ref 1094, .ref 1095, .ref 1098]))) 5 [.inl (0, 5, .inl (fdF a b c e f))]) 1076 (.inl (0, 2000, .inl (fdT tb L (fdF a b c e f) 20)))) 1075 (.inr (10, .int (nI 0) :: .ref 1076 :: .int (nI (L + 20)) :: [.int ep, .ref 1077, .ref 1078, .ref 1079, .ref 1080, .ref 1081, .int m9, .int m10, .ref g2, .ref m12, .ref 1094, .ref 1095, .ref 1098]))) := by
  have h1 : ∀ x, x < 1000 + ρ.2.1 → x ≠ 1075 → x ≠ 1076 → (mxWr (mxWr (mxgl (mxWr ρ 1075 (.inr (10, .int (nI 0) :: .ref 1076 :: .int (nI L) :: [.int ep, .ref 1077, .ref 1078, .ref 1079, .ref 1080, .ref 1081, .int m9, .int m10, .ref g2, .ref m12, .ref 1094, .ref 1095, .ref 1098]))) 5 [.inl (0, 5, .inl (fdF a b c e f))]) 1076 (.inl (0, 2000, .inl (fdT tb L (fdF a b c e f) 20)))) 1075 (.inr (10, .int (nI 0) :: .ref 1076 :: .int (nI (L + 20)) :: [.int ep, .ref 1077, .ref 1078, .ref 1079, .ref 1080, .ref 1081, .int m9, .int m10, .ref g2, .ref m12, .ref 1094, .ref 1095, .ref 1098]))).1 x = ρ.1 x := fun x y1 y2 y3 => (wr_o _ _ y2).trans ((wr_o _ _ y3).trans ((gl_o (mxWr ρ 1075 _) 5 _ (show x < 1000 + ρ.2.1 from y1)).trans (wr_o ρ _ y2)))
  have h2 : (mxWr (mxWr (mxgl (mxWr ρ 1075 (.inr (10, .int (nI 0) :: .ref 1076 :: .int (nI L) :: [.int ep, .ref 1077, .ref 1078, .ref 1079, .ref 1080, .ref 1081, .int m9, .int m10, .ref g2, .ref m12, .ref 1094, .ref 1095, .ref 1098]))) 5 [.inl (0, 5, .inl (fdF a b c e f))]) 1076 (.inl (0, 2000, .inl (fdT tb L (fdF a b c e f) 20)))) 1075 (.inr (10, .int (nI 0) :: .ref 1076 :: .int (nI (L + 20)) :: [.int ep, .ref 1077, .ref 1078, .ref 1079, .ref 1080, .ref 1081, .int m9, .int m10, .ref g2, .ref m12, .ref 1094, .ref 1095, .ref 1098]))).2 = (ρ.2.1 + 1, ρ.2.2 + 5) := rfl
  exact ⟨h1, h2, fun x y1 y2 => h1 x y2 (by omega) (by omega), by rw [h2]; exact Nat.le_add_right _ _, by rw [h2]; show ρ.2.1 + 1 ≤ _; omega, by rw [h2]; show ρ.2.2 + 5 ≤ _; omega⟩
theorem pb_feed (a b c e f : Int32) {τ : mxS} {L : Nat} {bs tb : Nat → Int32} {ep : Int32} {g pb g2 : Nat} {n P O T : Nat} {K A B : Nat → Nat} {od : ODT} {hs : Nat → Int32} {pl : Nat → Nat} {ls : Nat → Int32} {dy co : Int32} {h' ls' : Nat → Int32} (H : WJ τ L bs tb ep g pb g2 n P O T K A B od hs pl ls dy co h' ls') : PBr false 2560 [some (.ref 1000), some (.int a), some (.int b), some (.int c), some (.int e), some (.int f), some (.ref 1101), none] 1582 [some (.ref 1075), some (.int a), some (.int b), some (.int c), some (.int e), some (.int f), none, none] τ := by
  obtain ⟨HC, HR, hok, ea, el, hb, o, ho⟩ := id H; obtain ⟨hok', hr, h0, hn, hP, hpl, hO, hw⟩ := w_R H; obtain ⟨tl, tr, ws, sn, ps, rn, wc, sl, sr, HB⟩ := cw_csB HC hok; obtain ⟨z, hX⟩ := w_X H; have hN := w_N H
  obtain ⟨⟨cg, cN, cL', _⟩, cX, cT, _⟩ := id HC
  have u0 : 1000 ≤ 1000 ∧ 1000 < 1000 + τ.2.1 := by omega
  have u1 : 1001 + 2 ≤ 1000 + τ.2.1 := by omega
  by_cases hL : L + 20 ≤ 2000
  · have ee := fun (Q : Option Value ⊕ Nat → mxS → Prop) => q_feed (d := 199 - 1) (a := a) (b := b) (c := c) (e := e) (f := f) cX u0 (by decide) u1 (onB_ov cT) (by decide) (by decide) hL (Q := Q)
    have hf := frC_tp (τ := τ) (bs := ap5 bs L a b c e f) (x := nI (L + 20))
    have HC0 := cw_tape (L' := L + 20) (bs' := ap5 bs L a b c e f) HC hL
    generalize tpW τ 1001 (ap5 bs L a b c e f) (nI (L + 20)) = τ1 at *
    obtain ⟨o1, ho1⟩ := w_out H hf
    have hN1 : 102 ≤ τ1.2.1 := Nat.le_trans hN hf.2.1
    obtain ⟨HC1, HR1⟩ := w_mid H hf HC0 (frO_w τ1 (nI (L + 20)).toInt64 o1)
    obtain ⟨_, ⟨th, m9, m10, m12, hM⟩, hT, _⟩ := id HR1
    have hN2 : 102 ≤ (outW τ1 (nI (L + 20)).toInt64 o1).2.1 := hN1
    have hoo : (outW τ1 (nI (L + 20)).toInt64 o1).1 1101 = _ := wr_s _ _ _
    have hfo := frO_w τ1 (nI (L + 20)).toInt64 o1
    have hlw := fun (Q : Option Value ⊕ Nat → mxS → Prop) => lw_feed (d := 199) hX hN ho1 hN1 (by decide) (fun {Q} => ee Q) (Q := Q)
    generalize outW τ1 (nI (L + 20)).toInt64 o1 = ρ at *
    have u2 : 1000 ≤ 1075 ∧ 1075 < 1000 + ρ.2.1 := ⟨by decide, by omega⟩
    have u3 : 1000 ≤ 1076 ∧ 1076 < 1000 + ρ.2.1 := ⟨by decide, by omega⟩
    have er := fun (Q : Option Value ⊕ Nat → mxS → Prop) => r_feed (d := 199) (a := a) (b := b) (c := c) (e := e) (f := f) hM u2 hT u3 (by decide) (show 3 ≤ 13 by decide) hL (Q := Q)
    obtain ⟨x1, x2, x3⟩ := rf_fr (L := L) (g2 := g2) (m12 := m12) (ep := ep) (m9 := m9) (m10 := m10) (a := a) (b := b) (c := c) (e := e) (f := f) (tb := tb) hN2
    have HR2 := rw_tape (τ' := (mxWr (mxWr (mxgl (mxWr ρ 1075 (.inr (10, .int (nI 0) :: .ref 1076 :: .int (nI L) :: [.int ep, .ref 1077, .ref 1078, .ref 1079, .ref 1080, .ref 1081, .int m9, .int m10, .ref g2, .ref m12, .ref 1094, .ref 1095, .ref 1098]))) 5 [.inl (0, 5, .inl (fdF a b c e f))]) 1076 (.inl (0, 2000, .inl (fdT tb L (fdF a b c e f) 20)))) 1075 (.inr (10, .int (nI 0) :: .ref 1076 :: .int (nI (L + 20)) :: [.int ep, .ref 1077, .ref 1078, .ref 1079, .ref 1080, .ref 1081, .int m9, .int m10, .ref g2, .ref m12, .ref 1094, .ref 1095, .ref 1098])))) (L' := L + 20) (tb' := fdT tb L (fdF a b c e f) 20) HR1 x1 (by rw [x2]; exact Nat.le_add_right _ _) ⟨_, m9, m10, m12, wr_s _ _ _⟩ ((wr_o _ _ (by decide)).trans (wr_s _ _ _)) hL
    obtain ⟨W2, c2, e2⟩ := w_end hf hfo x3 hN hoo HC1 HR2 hok ea el (fed_b hb)
    exact ⟨0, nI (L + 20), ρ, _, fun {Q} => hlw Q, fun {Q} => er Q, ⟨⟨z, hX⟩, hN, rw_M HR1, hN2, kq hf hfo⟩, W2, c2, ⟨_, wr_s _ _ _⟩, by decide, _, e2, fun _ => va_up_self _ _ _⟩
  · have ee := fun (Q : Option Value ⊕ Nat → mxS → Prop) => n_feed (d := 199 - 1) (a := a) (b := b) (c := c) (e := e) (f := f) cX u0 (by decide) u1 (onB_ov cT) (by decide) (by decide) hL cL' (Q := Q)
    obtain ⟨HC1, HR1, _⟩ := wj_th H; obtain ⟨o1, ho1⟩ := w_out H (frC_th τ); obtain ⟨_, ⟨th, m9, m10, m12, hM⟩, _⟩ := id HR1
    obtain ⟨W2, c2, e2⟩ := w_end (τ2 := (mxWr (thT τ) 1075 (.inr (10, .int (nI 1) :: .ref 1076 :: .int (nI L) :: [.int ep, .ref 1077, .ref 1078, .ref 1079, .ref 1080, .ref 1081, .int m9, .int m10, .ref g2, .ref m12, .ref 1094, .ref 1095, .ref 1098])))) (frC_th τ) (frO_id _) (frR_M _ _) hN ho1 HC1 (rw_th HR1) hok ea el hb
    obtain ⟨_, _, hT, _⟩ := id HR1
    have u2 : 1000 ≤ 1075 ∧ 1075 < 1000 + (thT τ).2.1 := ⟨by decide, by show 1075 < 1000 + (τ.2.1 + 1); omega⟩
    have u3 : 1000 ≤ 1076 ∧ 1076 < 1000 + (thT τ).2.1 := ⟨by decide, by show 1076 < 1000 + (τ.2.1 + 1); omega⟩
    exact ⟨1, nI 0, thT τ, _, lx_feed0 hX hN (by decide) (fun {Q} => ee Q), u_feed (d := 199) hM u2 hT u3 (by decide) (by decide) hL cL', ⟨⟨z, hX⟩, hN, rw_M HR1, Nat.le_trans hN (frC_th τ).2.1, kq (frC_th τ) (frO_id _)⟩, W2, c2, ⟨_, wr_s _ _ _⟩, by decide, o1, e2, fun h => absurd h (by decide)⟩
