/-! ===== both readers: roofs, and the book from its start ===== -/
theorem ln_roof {c : Cx} {i : Nat} {st : List (Nat × Nat × Nat)} {pp : List Nat} {S : S3} (hc : xok c) (hL : LR c i st pp S) (hi0 : i < xE c) (hz : xzf c i = 5) (hk : xkd c i = 44) : (LR c (i + 1) st pp (ruS c S [aRole 5, aRoof, aSk]) ∧ cTc (ruS c S [aRole 5, aRoof, aSk]).1 = cTc S.1 + 1) ∨ Er (ruS c S [aRole 5, aRoof, aSk]) := by
  obtain ⟨hG, ⟨o1, o2, o3, o4⟩, hF, hT⟩ := hL
  obtain ⟨C, F, e, b, R⟩ := S
  obtain ⟨hA, ⟨t1, t2, t3⟩, ⟨p1, p2, p3⟩, gN1, gS1, he, hb⟩ := hG
  have he : e = nI 0 := he
  have hb : b = 0 := hb
  subst he hb
  have hA : gA c i C R := hA
  obtain ⟨a1, a2, a3, a4⟩ := id hA
  have t1 : rTw R = cTc C := t1
  have t2 : cTc C ≤ 16 := t2
  obtain ⟨hv, x, hx, hxe⟩ := hc.1 i hi0 hk
  have e2 : xeo c 5 i R = if rTw R = 16 then (nI 4, R) else (inO (xnum c i) (nI 0) (nI 20), uRoof (xnum c i) R) := rfl
  have es : ruS c (C, F, nI 0, 0, R) [aRole 5, aRoof, aSk] = (cSk (cRoof (xv c) C), uSk (uRole 5 F), eoX c (nI 0, 5, R)) := rfl
  have eo : eoX c (nI 0, 5, R) = if (xeo c 5 i R).1 = nI 0 then (nI 0, 0, uSk (xeo c 5 i R).2) else ((xeo c 5 i R).1, 0, (xeo c 5 i R).2) := by
    show (if nI 0 = nI 0 then (if (xeo c 5 (rTk R) R).1 = nI 0 then (nI 0, 0, uSk (xeo c 5 (rTk R) R).2) else ((xeo c 5 (rTk R) R).1, 0, (xeo c 5 (rTk R) R).2)) else _) = _
    rw [if_pos rfl, a3]
  have n4 : ¬ nI 4 = nI 0 := by decide
  have n5 : ¬ nI 5 = nI 0 := by decide
  have ntE : ∀ n, cNote n C = ((cAt C, cM1 C, cM2 C), (n, cAt C, cTc C, cPc C), (cOc C, cSc C, cHs C, cPs C), (cLs C, cOd C, cKf C), (cFa C, cSa C, cNs C)) := fun n => if_pos a1
  have et : rTk R = cAt C := a3.trans a2.symm
  rw [es, eo, e2, t1]
  unfold cRoof
  rw [a2, hv]
  by_cases q : cTc C = 16
  · rw [if_pos q, if_neg n4, if_pos (by omega), ntE]
    refine .inr ?_
    unfold cAddT
    rw [if_neg (by show ¬ cTc C < 16; omega)]
    exact ⟨by show ¬ 4 = 0; decide, by show 4 ≤ 5; decide, rfl, et⟩
  · rw [if_neg q, if_neg (show ¬ ¬ cTc C < 16 by omega)]
    unfold inO
    have h0 : ¬ xnum c i < nI 0 := by
      rw [hxe]
      exact nI_nlt (Nat.zero_le _) (by omega)
    rw [if_neg h0]
    by_cases q2 : nI 20 < xnum c i
    · rw [if_pos q2, if_neg n5, if_neg (Int32.not_le.mpr q2), ntE]
      refine .inr ?_
      unfold cAddT
      rw [if_pos (by show cTc C < 16; omega)]
      exact ⟨by show ¬ 5 = 0; decide, by show 5 ≤ 5; decide, rfl, et⟩
    · rw [if_neg q2, if_pos rfl, if_pos (Int32.not_lt.mp q2)]
      have h20 : x ≤ 20 := by
        have := Int32.not_lt.mp q2
        rw [hxe] at this
        exact (nI_leI (by omega) (by decide)).mp this
      have ea : cAddT (xnum c i) C = ((cAt C, cM1 C, cM2 C), (cEr C, cEt C, cTc C + 1, cPc C), (cOc C, cSc C, va_up (cHs C) (cTc C) (xnum c i), cPs C), (cLs C, cOd C, cKf C), (cFa C, cSa C, cNs C)) := by
        unfold cAddT
        rw [if_pos (by omega)]
      rw [ea]
      refine .inl ⟨⟨⟨gA_sk (C := ((cAt C, cM1 C, cM2 C), (cEr C, cEt C, cTc C + 1, cPc C), (cOc C, cSc C, va_up (cHs C) (cTc C) (xnum c i), cPs C), (cLs C, cOd C, cKf C), (cFa C, cSa C, cNs C))) (R := uRoof (xnum c i) R) hA, ⟨?_, ?_, fun k hk' => ?_⟩, ⟨p1, p2, fun k hk' => ?_⟩, gN_sk (C := ((cAt C, cM1 C, cM2 C), (cEr C, cEt C, cTc C + 1, cPc C), (cOc C, cSc C, va_up (cHs C) (cTc C) (xnum c i), cPs C), (cLs C, cOd C, cKf C), (cFa C, cSa C, cNs C))) gN1 (by rw [hz]; decide), gS_cg gS1 (by omega) ⟨rfl, rfl, rfl, rfl⟩ (Nat.le_refl _) (fun l hl => rfl), rfl, rfl⟩, ⟨o1, o2, o3, fun k hk' => ?_⟩, FC_s hF ⟨rfl, rfl, rfl, rfl⟩, ?_⟩, rfl⟩
      · show rTw R + 1 = cTc C + 1
        rw [t1]
      · show cTc C + 1 ≤ 16
        omega
      · have hk' : k < cTc C + 1 := hk'
        show va_up (rHe R) (rTw R) (xnum c i) k = va_up (cHs C) (cTc C) (xnum c i) k ∧ ∃ x, x ≤ 20 ∧ va_up (cHs C) (cTc C) (xnum c i) k = nI x
        rw [t1]
        by_cases r : k = cTc C
        · subst r
          rw [va_up_self, va_up_self]
          exact ⟨rfl, x, h20, hxe⟩
        · rw [va_up_ne _ _ r, va_up_ne _ _ r]
          exact t3 k (by show k < cTc C; omega)
      · obtain ⟨y1, y2, p, y3, y4⟩ := p3 k hk'
        exact ⟨y1, y2, p, Nat.lt_succ_of_lt y3, y4⟩
      · have := gOk_cg (u := []) (C' := cSk ((cAt C, cM1 C, cM2 C), (cEr C, cEt C, cTc C + 1, cPc C), (cOc C, cSc C, va_up (cHs C) (cTc C) (xnum c i), cPs C), (cLs C, cOd C, cKf C), (cFa C, cSa C, cNs C))) (F' := uSk (uRole 5 F)) (R' := uSk (uRoof (xnum c i) R)) (o4 k hk') (Nat.le_refl _) rfl rfl rfl rfl rfl rfl rfl
        rw [List.append_nil] at this
        exact this
      · show rTk F + 1 = _
        rw [show rTk F = i from hT]
/-- roofs: like a line, but there are more towers -/
def RfT (c : Cx) (i m : Nat) (t : List PA) : Prop := ∀ st pp S, LR c i st pp S → i + skN t ≤ xE c → ag (xzf c) i 0 st.length t → (∃ pp', LR c (i + skN t) (st ++ stT t) pp' (ruS c S t) ∧ cTc S.1 + m ≤ cTc (ruS c S t).1) ∨ Er (ruS c S t)
theorem Rf_app {c : Cx} {i m n : Nat} {s t : List PA} (h1 : RfT c i m s) (h2 : RfT c (i + skN s) n t) : RfT c i (m + n) (s ++ t) := by
  intro st pp S hG hE ha
  rw [skN_app] at hE
  obtain ⟨a1, a2⟩ := ag_sp ha hG.1.2.2.2.2.2.2
  rw [ruS_app]
  rcases h1 st pp S hG (by omega) a1 with ⟨pp', hG', hc'⟩ | he
  · have a2 := a2 hG'.1.2.2.2.2.2.2
    rw [← List.length_append] at a2
    rcases h2 (st ++ stT s) pp' _ hG' (by omega) a2 with ⟨pp2, hG2, hc2⟩ | he
    · rw [skN_app, stT_app, ← Nat.add_assoc, ← List.append_assoc]
      exact .inl ⟨pp2, hG2, by omega⟩
    · exact .inr he
  · exact .inr (Er_run he _)
theorem Rf_Ln {c : Cx} {i : Nat} {t : List PA} (h : LnT c i t) : RfT c i 0 t := fun st pp S hG hE ha => (h st pp S hG hE ha).imp (fun ⟨pp', x, y⟩ => ⟨pp', x, by rw [y]; exact Nat.le_refl _⟩) id
theorem Rf_1 {c : Cx} {i : Nat} (hc : xok c) (hk : xkd c i = 44) : RfT c i 1 [aRole 5, aRoof, aSk] := by
  intro st pp S hG hE ha
  have ha : xzf c i = 5 ∧ True := ha
  have hE : i + 1 ≤ xE c := hE
  refine (ln_roof hc hG (by omega) ha.1 hk).imp (fun ⟨x, y⟩ => ⟨pp, ?_, by rw [y]; exact Nat.le_refl _⟩) id
  show LR c (i + 1) (st ++ []) pp _
  rw [List.append_nil]
  exact x
theorem Rf_w {c : Cx} {i m : Nat} {t : List PA} (h : RfT c i m t) : RfT c i 0 t := fun st pp S hG hE ha => (h st pp S hG hE ha).imp (fun ⟨pp', x, y⟩ => ⟨pp', x, by omega⟩) id
theorem Rf_L {c : Cx} (hc : xok c) : ∀ m i, RfT c i 0 (pRoofL (xkd c) m i).2
  | 0, i => Rf_Ln (Ln_Sm (Sm_q [] i rfl) rfl)
  | m + 1, i => by
    rw [pRoofL]
    by_cases q : xkd c i = 44
    · rw [if_pos q, pSeq_ok]
      exact Rf_w (Rf_app (s := [aRole 5, aRoof, aSk]) (Rf_1 hc q) (Rf_L hc m _))
    · rw [if_neg q]
      exact Rf_Ln (Ln_Sm (Sm_q [] i rfl) rfl)
theorem rl_ok (kd : Nat → Nat) : ∀ m i, (pRoofL kd m i).1 = true
  | 0, i => rfl
  | m + 1, i => by
    rw [pRoofL]
    split
    · exact rl_ok kd m _
    · rfl
theorem b_run {c : Cx} (hc : xok c) (hok : (pBook (xkd c)).1 = true) : RfT c 0 1 (pBook (xkd c)).2 := by
  unfold pBook at hok ⊢
  obtain ⟨h1, h2, et⟩ := seq_ok hok
  rw [et]
  have hl := Ln_lines hc _ _ h2
  refine Rf_app (m := 1) (n := 0) ?_ (Rf_Ln hl)
  clear et h2 hl hok
  unfold pRoofs at h1 ⊢
  obtain ⟨h3, h4, et⟩ := seq_ok h1
  rw [et]
  have e0 := Ln_take (c := c) (k := 0) 0 h3
  refine Rf_app (m := 0) (n := 1) (Rf_Ln e0) ?_
  clear et e0
  have e1 : skN (pTake (xkd c) 0 0).2 = 1 := by
    unfold pTake at h3 ⊢
    by_cases q : xkd c 0 = 0
    · rw [if_pos q]
      rfl
    · rw [if_neg q] at h3
      exact absurd h3 Bool.false_ne_true
  rw [e1] at h4 ⊢
  by_cases q : xkd c (0 + 1) = 44
  · rw [if_pos q] at h4 ⊢
    obtain ⟨_, h6, et⟩ := seq_ok h4
    rw [et]
    refine Rf_app (m := 1) (n := 0) ?_ (Rf_Ln (Ln_take _ h6))
    show RfT c (0 + 1) 1 (pRoofL (xkd c) (399 + 1) (0 + 1)).2
    rw [pRoofL, if_pos q, pSeq_ok]
    exact Rf_app (s := [aRole 5, aRoof, aSk]) (m := 1) (n := 0) (Rf_1 hc q) (Rf_L hc _ _)
  · rw [if_neg q] at h4
    exact absurd h4 Bool.false_ne_true
/-- roles and steps are as they are -/
theorem ag_of {kd : Nat → Nat} {NT : Nat} (hE : kd NT = 45 ∨ kd NT = 46) (hN : NT ≤ 400) (zf : Nat → Nat) : ∀ (t : List PA) (i b w o s : Nat), (∀ p, i ≤ p → p < i + skN t → zf p = zfT i b t p) → chk kd i w o s t → i + skN t ≤ NT → ag zf i b s t
  | [], _, _, _, _, _, _, _, _ => trivial
  | a :: t, i, b, w, o, s, hz, hk, hi => by
    obtain ⟨⟨_, _, c3⟩, hc⟩ := hk
    have hs : skN (a :: t) = (if a.1 = 0 then 1 else 0) + skN t := rfl
    have ebk : bSk a = if a.1 = 0 then 1 else 0 := rfl
    have ebs : bSt a = if a.1 = 5 then 1 else 0 := rfl
    rw [ag]
    by_cases p1 : a.1 = 1
    · rw [if_pos p1]
      rw [if_neg (by omega), Nat.zero_add] at hs
      rw [ebk, ebs, if_neg (by omega), if_neg (by omega)] at hc
      exact ag_of hE hN zf t i a.2.1 _ _ s (fun p h1 h2 => by rw [hz p h1 (by omega), zfT, if_pos p1]) hc (by omega)
    · rw [if_neg p1]
      by_cases p0 : a.1 = 0
      · rw [if_pos p0]
        rw [if_pos p0] at hs
        rw [ebk, ebs, if_pos p0, if_neg (by omega)] at hc
        refine ⟨?_, ag_of hE hN zf t (i + 1) 0 _ _ s (fun p h1 h2 => by rw [hz p (by omega) (by omega), zfT, if_neg p1, if_pos p0, if_neg (by omega)]) hc (by omega)⟩
        rw [hz i (Nat.le_refl _) (by omega), zfT, if_neg p1, if_pos p0, if_pos rfl]
      · rw [if_neg p0]
        rw [if_neg p0, Nat.zero_add] at hs
        by_cases p5 : a.1 = 5
        · rw [if_pos p5]
          rw [ebk, ebs, if_neg p0, if_pos p5] at hc
          rw [ebs, if_pos p5] at c3
          refine ⟨?_, ag_of hE hN zf t i b _ _ (s + 1) (fun p h1 h2 => by rw [hz p h1 (by omega), zfT, if_neg p1, if_neg p0]) hc (by omega)⟩
          rcases c3 rfl with h | ⟨h, h2, h3⟩
          · omega
          · have : ¬ i = NT := fun z => by rw [z] at h2 h3; omega
            omega
        · rw [if_neg p5]
          rw [ebk, ebs, if_neg p0, if_neg p5] at hc
          exact ag_of hE hN zf t i b _ _ s (fun p h1 h2 => by rw [hz p h1 (by omega), zfT, if_neg p1, if_neg p0]) hc (by omega)
