/-! ===== both readers: an order's line ===== -/
theorem SmF {c : Cx} {i : Nat} {t : List PA} {st : List (Nat × Nat × Nat)} {pp : List Nat} {S : S3} (h : SmT c i t) (hw : wdT i t = encA (stT t)) (hG : GS c i st pp S) (hF : FC c (encA st) S.2.1) (hk : rTk S.2.1 = i) (hE : i + skN t ≤ xE c) (ha : ag (xzf c) i 0 st.length t) : (GS c (i + skN t) (st ++ stT t) pp (ruS c S t) ∧ FC c (encA (st ++ stT t)) (ruS c S t).2.1 ∧ rTk (ruS c S t).2.1 = i + skN t ∧ fr i S (ruS c S t)) ∨ Er (ruS c S t) := by
  rcases h st pp S hG hE ha with ⟨x1, x2⟩ | he
  · refine .inl ⟨x1, ?_, ?_, x2⟩
    · rw [ruS_F, encA_app, ← hw]
      exact FC_run c t _ i _ hF hk
    · rw [ruS_F, run_tk, hk]
  · exact .inr he
def pOr (st : List (Nat × Nat × Nat)) (k f : Nat) (S : S3) : Prop := (rOd S.2.2.2.2 = cOc S.1 + 1 ∧ cOc S.1 < 16 ∧ rOr S.2.1 = cOc S.1 + 1 ∧ rPa S.2.1 = cOc S.1) ∧ rDo S.2.2.2.2 (cOc S.1) = nI k ∧ rSu S.2.1 (cOc S.1) = nI (stP st f) ∧ cM1 S.1 = f ∧ f ≤ st.length ∧ ∀ k', k' < cOc S.1 → gOk st (cPc S.1) S.1 S.2.1 S.2.2.2.2 k'
theorem pOr_fr {i k f : Nat} {st u : List (Nat × Nat × Nat)} {S T : S3} (h : pOr st k f S) (hf : fr i S T) : pOr (st ++ u) k f T := by
  obtain ⟨⟨h1, h2, h3, h4⟩, h5, h6, h7, h8, h9⟩ := h
  obtain ⟨⟨f1, f2, f3, f4⟩, ⟨f5, f6, f7⟩, ⟨f8, f9, f10⟩, ⟨f11, f12, f13, f14, f15, f16⟩, f17⟩ := hf
  unfold pOr
  rw [f1, f8, f11, f12, f9, f14, f3]
  refine ⟨⟨h1, h2, h3, h4⟩, h5, ?_, h7, by rw [List.length_append]; omega, fun k' hk => ?_⟩
  · rw [h6, stP_app h8]
  · exact gOk_cg (h9 k' hk) (by rw [f5]; exact Nat.le_refl _) (by rw [f2]) (by rw [f10]) (by rw [f9]) (by rw [f13]) (by rw [f14]) (by rw [f15]) (by rw [f16])
def pT (st : List (Nat × Nat × Nat)) (t : Nat) (S : S3) : Prop := cM2 S.1 = t ∧ rTe S.2.1 (cOc S.1) = nI (stP st t) ∧ t ≤ st.length
theorem pT_fr {i t : Nat} {st u : List (Nat × Nat × Nat)} {S T : S3} (h : pT st t S) (hf : fr i S T) : pT (st ++ u) t T := by
  obtain ⟨h1, h2, h3⟩ := h
  obtain ⟨⟨f1, f2, f3, f4⟩, ⟨f5, f6, f7⟩, ⟨f8, f9, f10⟩, ⟨f11, f12, f13, f14, f15, f16⟩, f17⟩ := hf
  exact ⟨f4.trans h1, by rw [f15, f1, h2, stP_app h3], by rw [List.length_append]; omega⟩
def pM (c : Cx) (i : Nat) (S : S3) (j b : Nat) : Prop := kl c i S j ∧ rTo S.2.2.2.2 (cOc S.1) = rMe S.2.2.2.2 j ∧ rRi S.2.1 (cOc S.1) = nI b
theorem pM_fr {c : Cx} {i i' j b : Nat} {S T : S3} (h : pM c i S j b) (hf : fr i S T) (hi : i ≤ i') : pM c i' T j b := by
  obtain ⟨h1, h2, h3⟩ := h
  have h1' := kl_fr h1 hf hi
  obtain ⟨⟨f1, f2, f3, f4⟩, ⟨f5, f6, f7⟩, ⟨f8, f9, f10⟩, ⟨f11, f12, f13, f14, f15, f16⟩, f17⟩ := hf
  exact ⟨h1', by rw [f10, f1, f17 j h1.1]; exact h2, by rw [f13, f1]; exact h3⟩
theorem gN_sk {c : Cx} {i : Nat} {pp : List Nat} {C : RS} (h : gN c i pp C) (hz : ¬ xzf c i = 1) : gN c (i + 1) pp (cSk C) := by
  obtain ⟨n1, n2, n3, n4, n5⟩ := h
  refine ⟨n1, fun k h => ?_, n3, fun j h1 h2 => ?_, n5⟩
  · obtain ⟨x1, x2⟩ := n2 k h
    exact ⟨by omega, x2⟩
  · by_cases q : j = i
    · rw [q] at h2
      exact absurd h2 hz
    · exact n4 j (by omega) h2
theorem o_beg {c : Cx} {i k : Nat} {st : List (Nat × Nat × Nat)} {pp : List Nat} {S : S3} (hc : xok c) (hL : LR c i st pp S) (hE : i + 1 ≤ xE c) (hz : xzf c i = 2) (hk : xkd c i = k) (hk2 : k = 4 ∨ k = 5 ∨ k = 6 ∨ k = 7) : (GS c (i + 1) st pp (ruS c S [aFull, aRole 2, aSk, aOB, aM1]) ∧ FC c (encA st) (ruS c S [aFull, aRole 2, aSk, aOB, aM1]).2.1 ∧ rTk (ruS c S [aFull, aRole 2, aSk, aOB, aM1]).2.1 = i + 1 ∧ pOr st k st.length (ruS c S [aFull, aRole 2, aSk, aOB, aM1]) ∧ cTc (ruS c S [aFull, aRole 2, aSk, aOB, aM1]).1 = cTc S.1) ∨ Er (ruS c S [aFull, aRole 2, aSk, aOB, aM1]) := by
  obtain ⟨hG, ⟨o1, o2, o3, o4⟩, hF, hT⟩ := hL
  obtain ⟨C, F, e, b, R⟩ := S
  obtain ⟨hA, gT1, gP1, gN1, gS1, he, hb⟩ := hG
  have he : e = nI 0 := he
  have hb : b = 0 := hb
  subst he hb
  have hA : gA c i C R := hA
  obtain ⟨a1, a2, a3, a4⟩ := id hA
  have o1 : rOd R = cOc C := o1
  have o2 : cOc C ≤ 16 := o2
  have e2 : xeo c 2 i R = if rOd R = 16 then (nI 4, R) else (nI 0, uDoes (nI k) R) := by
    show (if rOd R = 16 then (nI 4, R) else (nI 0, uDoes (xkf c i) R)) = _
    rw [hc.2.2 i (by omega) (by omega), hk]
  have es : ruS c (C, F, nI 0, 0, R) [aFull, aRole 2, aSk, aOB, aM1] = (cMk1 (cSk (cFull C)), uOB (uSk (uRole 2 F)), eoX c (nI 0, 2, R)) := rfl
  have eo : eoX c (nI 0, 2, R) = if (xeo c 2 i R).1 = nI 0 then (nI 0, 0, uSk (xeo c 2 i R).2) else ((xeo c 2 i R).1, 0, (xeo c 2 i R).2) := by
    show (if nI 0 = nI 0 then (if (xeo c 2 (rTk R) R).1 = nI 0 then (nI 0, 0, uSk (xeo c 2 (rTk R) R).2) else ((xeo c 2 (rTk R) R).1, 0, (xeo c 2 (rTk R) R).2)) else _) = _
    rw [if_pos rfl, a3]
  have n4 : ¬ nI 4 = nI 0 := by decide
  rw [es, eo, e2, o1]
  unfold cFull
  by_cases q : cOc C = 16
  · rw [if_pos q, if_neg n4, if_pos (by omega)]
    refine .inr ?_
    unfold cNote
    rw [if_pos a1]
    exact ⟨by show ¬ 4 = 0; decide, by show 4 ≤ 5; decide, rfl, a3.trans a2.symm⟩
  · rw [if_neg q, if_pos rfl, if_neg (by omega)]
    have hmin : min (rOr F) 16 = cOc C := by
      have : rOr F = cOc C := o3
      rw [this]
      omega
    have hSz : rSz F = (encA st).length := hF.1
    have ht : rTk F = i := hT
    refine .inl ⟨⟨gA_sk hA, gT1, gP1, gN_sk gN1 (by rw [hz]; decide), gS_cg gS1 (by omega) ⟨rfl, rfl, rfl, rfl⟩ (Nat.le_refl _) (fun l hl => rfl), rfl, rfl⟩, FC_s hF ⟨rfl, rfl, rfl, rfl⟩, ?_, ⟨⟨?_, ?_, ?_, hmin⟩, ?_, ?_, ?_, Nat.le_refl _, fun k' hk' => ?_⟩, rfl⟩
    · show rTk F + 1 = _
      rw [ht]
    · show rOd R + 1 = cOc C + 1
      rw [o1]
    · show cOc C < 16
      omega
    · show rOr F + 1 = cOc C + 1
      rw [show rOr F = cOc C from o3]
    · show va_up (rDo R) (rOd R) (nI k) (cOc C) = _
      rw [o1, va_up_self]
    · show va_up (rSu F) (min (rOr F) 16) (nI (rSz F)) (cOc C) = _
      rw [hmin, va_up_self, hSz, stP_len]
    · exact gS1.1
    · have hk' : k' < cOc C := hk'
      have := gOk_cg (u := []) (C' := cMk1 (cSk C)) (F' := uOB (uSk (uRole 2 F))) (R' := uSk (uDoes (nI k) R)) (o4 k' hk') (Nat.le_refl _) rfl rfl ?_ rfl ?_ rfl rfl
      · rw [List.append_nil] at this
        exact this
      · show va_up (rDo R) (rOd R) (nI k) k' = _
        rw [o1, va_up_ne _ _ (by omega)]
      · show va_up (rSu F) (min (rOr F) 16) (nI (rSz F)) k' = _
        rw [hmin, va_up_ne _ _ (by omega)]
theorem o_mov {c : Cx} {i k b f : Nat} {st : List (Nat × Nat × Nat)} {pp : List Nat} {S : S3} (hc : xok c) (hG : GS c i st pp S) (hF : FC c (encA st) S.2.1) (hT : rTk S.2.1 = i) (hO : pOr st k f S) (hE : i + 2 ≤ xE c) (hz : xzf c i = 3) (hz2 : xzf c (i + 1) = 0) (hk : xkd c i = 43) : (GS c (i + 2) st pp (ruS c S [aRole 3, aLook, aSk, aOR b, aSk]) ∧ FC c (encA st) (ruS c S [aRole 3, aLook, aSk, aOR b, aSk]).2.1 ∧ rTk (ruS c S [aRole 3, aLook, aSk, aOR b, aSk]).2.1 = i + 2 ∧ pOr st k f (ruS c S [aRole 3, aLook, aSk, aOR b, aSk]) ∧ pM c (i + 2) (ruS c S [aRole 3, aLook, aSk, aOR b, aSk]) i b ∧ cTc (ruS c S [aRole 3, aLook, aSk, aOR b, aSk]).1 = cTc S.1) ∨ Er (ruS c S [aRole 3, aLook, aSk, aOR b, aSk]) := by
  obtain ⟨C, F, e, bb, R⟩ := S
  obtain ⟨hA, gT1, gP1, gN1, gS1, he, hb⟩ := hG
  have he : e = nI 0 := he
  have hb : bb = 0 := hb
  subst he hb
  have hA : gA c i C R := hA
  have gN1 : gN c i pp C := gN1
  obtain ⟨hl, hq⟩ := look hc hA gN1 hk (by omega)
  obtain ⟨a1, a2, a3, a4⟩ := id hA
  have hP8 : cPc C ≤ 8 := gP1.2.1
  have eX : xeo c 3 i R = (lkE (xtd c R i), uTo (xtd c R i) (uMean i (xtd c R i) R)) := rfl
  have e3 : [aRole 3, aLook, aSk, aOR b, aSk] = [aRole 3, aLook, aSk] ++ [aOR b, aSk] := rfl
  have es : ruS c (C, F, nI 0, 0, R) [aRole 3, aLook, aSk] = (cSk (cLook (xv c) C), uSk (uRole 3 F), eoX c (nI 0, 3, R)) := rfl
  have eo : eoX c (nI 0, 3, R) = if lkE (xtd c R i) = nI 0 then (nI 0, 0, uSk (uTo (xtd c R i) (uMean i (xtd c R i) R))) else (lkE (xtd c R i), 0, uTo (xtd c R i) (uMean i (xtd c R i) R)) := by
    show (if nI 0 = nI 0 then (if (xeo c 3 (rTk R) R).1 = nI 0 then (nI 0, 0, uSk (xeo c 3 (rTk R) R).2) else ((xeo c 3 (rTk R) R).1, 0, (xeo c 3 (rTk R) R).2)) else _) = _
    rw [if_pos rfl, a3, eX]
  rw [e3, ruS_app, es, eo, hl, lkE_n (n := cPc C) (by omega) hq]
  have hcl : cLook (xv c) C = if lkS (cNs C) (xv c i) (cPc C) = none then cNote 3 C else C := by unfold cLook; rw [a2]
  rw [hcl]
  cases ho : lkS (cNs C) (xv c i) (cPc C) with
  | none =>
    rw [if_pos rfl, if_pos rfl, if_neg (by decide)]
    refine .inr (Er_run ?_ _)
    unfold cNote
    rw [if_pos a1]
    exact ⟨by show ¬ 3 = 0; decide, by show 3 ≤ 5; decide, rfl, a3.trans a2.symm⟩
  | some q =>
    have en : ¬ some q = none := Option.some_ne_none q
    rw [if_neg en, if_neg en, if_pos rfl]
    have hqP := hq q ho
    obtain ⟨⟨h1, h2, h3, h4⟩, h5, h6, h7, h8, h9⟩ := hO
    have h1 : rOd R = cOc C + 1 := h1
    have h4 : rPa F = cOc C := h4
    have er : ruS c (cSk C, uSk (uRole 3 F), nI 0, 0, uSk (uTo (encO (some q)) (uMean i (encO (some q)) R))) [aOR b, aSk] = (cSk (cSk C), uSk (uOR b (uSk (uRole 3 F))), nI 0, 0, uSk (uSk (uTo (encO (some q)) (uMean i (encO (some q)) R)))) := rfl
    rw [er]
    have hme : ∀ l, l < i → rMe (uSk (uSk (uTo (encO (some q)) (uMean i (encO (some q)) R)))) l = rMe R l := fun l hl => va_up_ne _ _ (by omega)
    have hmi : rMe (uSk (uSk (uTo (encO (some q)) (uMean i (encO (some q)) R)))) i = nI q := va_up_self _ _ _
    have hto : rTo (uSk (uSk (uTo (encO (some q)) (uMean i (encO (some q)) R)))) = va_up (rTo R) (rOd R - 1) (nI q) := rfl
    have ht : rTk F = i := hT
    refine .inl ⟨⟨gA_sk (gA_sk (R := uTo (encO (some q)) (uMean i (encO (some q)) R)) hA), gT1, gP1, gN_sk (gN_sk gN1 (by rw [hz]; decide)) (by rw [hz2]; decide), gS_cg gS1 (by omega) ⟨rfl, rfl, rfl, rfl⟩ (Nat.le_refl _) hme, rfl, rfl⟩, FC_s hF ⟨rfl, rfl, rfl, rfl⟩, ?_, ⟨⟨h1, h2, h3, h4⟩, h5, h6, h7, h8, fun k' hk' => ?_⟩, ⟨⟨by omega, q, hqP, hmi, ho⟩, ?_, ?_⟩, rfl⟩
    · show rTk F + 1 + 1 = _
      rw [ht]
    · have hk' : k' < cOc C := hk'
      have := gOk_cg (u := []) (C' := cSk (cSk C)) (F' := uSk (uOR b (uSk (uRole 3 F)))) (R' := uSk (uSk (uTo (encO (some q)) (uMean i (encO (some q)) R)))) (h9 k' hk') (Nat.le_refl _) rfl ?_ rfl ?_ rfl rfl rfl
      · rw [List.append_nil] at this
        exact this
      · rw [hto, h1, Nat.add_sub_cancel, va_up_ne _ _ (by omega)]
      · show va_up (rRi F) (rPa F) (nI b) k' = _
        rw [h4, va_up_ne _ _ (by omega)]
    · rw [hmi]
      show rTo (uSk (uSk (uTo (encO (some q)) (uMean i (encO (some q)) R)))) (cOc C) = _
      rw [hto, h1, Nat.add_sub_cancel, va_up_self]
    · show va_up (rRi F) (rPa F) (nI b) (cOc C) = _
      rw [h4, va_up_self]
theorem o_mid {c : Cx} {i k f : Nat} {st : List (Nat × Nat × Nat)} {pp : List Nat} {S : S3} (hG : GS c i st pp S) (hF : FC c (encA st) S.2.1) (hT : rTk S.2.1 = i) (hO : pOr st k f S) : GS c i st pp (ruS c S [aM2, aOT]) ∧ FC c (encA st) (ruS c S [aM2, aOT]).2.1 ∧ rTk (ruS c S [aM2, aOT]).2.1 = i ∧ pOr st k f (ruS c S [aM2, aOT]) ∧ pT st st.length (ruS c S [aM2, aOT]) ∧ cTc (ruS c S [aM2, aOT]).1 = cTc S.1 ∧ ∀ j b, pM c i S j b → pM c i (ruS c S [aM2, aOT]) j b := by
  obtain ⟨C, F, X⟩ := S
  have es : ruS c (C, F, X) [aM2, aOT] = (cMk2 C, uOT F, X) := by
    show (cMk2 C, uOT F, stepX c (stepX c X aM2) aOT) = _
    have e : ∀ a : PA, ¬ a.1 = 1 → ¬ a.1 = 0 → ∀ X, stepX c X a = X := fun a h1 h2 X => by
      unfold stepX
      rw [if_neg h1, if_neg h2]
    rw [e _ (by decide) (by decide), e _ (by decide) (by decide)]
  rw [es]
  obtain ⟨⟨h1, h2, h3, h4⟩, h5, h6, h7, h8, h9⟩ := hO
  have h4 : rPa F = cOc C := h4
  refine ⟨hG, FC_s hF ⟨rfl, rfl, rfl, rfl⟩, hT, ⟨⟨h1, h2, h3, h4⟩, h5, h6, h7, h8, fun k' hk' => ?_⟩, ⟨hG.2.2.2.2.1.1, ?_, Nat.le_refl _⟩, rfl, fun j b h => h⟩
  · have hk' : k' < cOc C := hk'
    have := gOk_cg (u := []) (C' := cMk2 C) (F' := uOT F) (R' := X.2.2) (h9 k' hk') (Nat.le_refl _) rfl rfl rfl rfl rfl ?_ rfl
    · rw [List.append_nil] at this
      exact this
    · show va_up (rTe F) (rPa F) (nI (rSz F)) k' = _
      rw [h4, va_up_ne _ _ (by omega)]
  · show va_up (rTe F) (rPa F) (nI (rSz F)) (cOc C) = _
    rw [h4, va_up_self, stP_len, ← hF.1]
theorem o_end {c : Cx} {i k f t j b : Nat} {st : List (Nat × Nat × Nat)} {pp : List Nat} {S : S3} (hG : GS c i st pp S) (hF : FC c (encA st) S.2.1) (hT : rTk S.2.1 = i) (hO : pOr st k f S) (hT2 : pT st t S) (hb : b = 0 ∨ b = 1) (hft : f ≤ t) (hX : (k = 4 ∨ k = 5) ∧ pM c i S j b ∨ (k = 6 ∨ k = 7) ∧ tyS (seg st f (t - f)) [] [false]) (hte : t < st.length → tyS (seg st t (st.length - t)) [] [true]) : LR c i st pp (ruS c S [aOE, aOrd k j b]) ∧ cTc (ruS c S [aOE, aOrd k j b]).1 = cTc S.1 := by
  obtain ⟨C, F, X⟩ := S
  obtain ⟨⟨h1, h2, h3, h4⟩, h5, h6, h7, h8, h9⟩ := hO
  obtain ⟨t1, t2, t3⟩ := hT2
  have h2 : cOc C < 16 := h2
  have h4 : rPa F = cOc C := h4
  have h7 : cM1 C = f := h7
  have t1 : cM2 C = t := t1
  have hS1 : cSc C = st.length := hG.2.2.2.2.1.1
  have es : ruS c (C, F, X) [aOE, aOrd k j b] = (((cAt C, cM1 C, cM2 C), (cEr C, cEt C, cTc C, cPc C), (cOc C + 1, cSc C, cHs C, cPs C), (cLs C, va_up (cOd C) (cOc C) (k, (if k = 4 ∨ k = 5 then lkV (xv c) C j else nI 0), nI b, nI f, nI t, nI st.length), cKf C), (cFa C, cSa C, cNs C)), uOE F, X) := by
    show (cOrd (xv c) k j b C, uOE F, stepX c (stepX c X aOE) (aOrd k j b)) = _
    have e : ∀ a : PA, ¬ a.1 = 1 → ¬ a.1 = 0 → ∀ X, stepX c X a = X := fun a h1 h2 X => by
      unfold stepX
      rw [if_neg h1, if_neg h2]
    rw [e aOE (by decide) (by decide), e (aOrd k j b) (show ¬ 12 = 1 by decide) (show ¬ 12 = 0 by decide)]
    unfold cOrd cAddO
    rw [if_pos h2, h7, t1, hS1]
  rw [es]
  refine ⟨⟨hG, ⟨h1, by show cOc C + 1 ≤ 16; omega, h3, fun k' hk' => ?_⟩, FC_s hF ⟨rfl, rfl, rfl, rfl⟩, hT⟩, rfl⟩
  have hk' : k' < cOc C + 1 := hk'
  by_cases q : k' = cOc C
  · subst q
    have hf8 : f ≤ st.length := h8
    obtain ⟨qq, hqq, hmv⟩ : ∃ qq, (if k = 4 ∨ k = 5 then lkV (xv c) C j else nI 0) = nI qq ∧ ((k = 4 ∨ k = 5) ∧ qq < cPc C ∧ rTo X.2.2 (cOc C) = nI qq ∧ rRi F (cOc C) = nI b ∨ (k = 6 ∨ k = 7) ∧ qq = 0 ∧ tyS (seg st f (t - f)) [] [false]) := by
      rcases hX with ⟨y1, y2, y3, y4⟩ | ⟨y1, y2⟩
      · obtain ⟨l1, l2⟩ := lkV_n y2 hG.2.2.1.2.1
        obtain ⟨_, q, q1, q2, _⟩ := y2
        have l1 : lkV (xv c) C j = rMe X.2.2 j := l1
        have q2 : rMe X.2.2 j = nI q := q2
        refine ⟨q, by rw [if_pos y1, l1, q2], .inl ⟨y1, q1, ?_, y4⟩⟩
        rw [← q2]
        exact y3
      · exact ⟨0, by rw [if_neg (by omega)], .inr ⟨y1, rfl, y2⟩⟩
    rw [hqq]
    refine ⟨k, qq, f, t, st.length, nI b, va_up_self _ _ _, hb.imp (fun z => by rw [z]) (fun z => by rw [z]), ⟨hft, t3, Nat.le_refl _⟩, hmv, hte, h5, h6, t2, ?_⟩
    show va_up (rTn F) (rPa F) (nI (rSz F)) (cOc C) = _
    rw [h4, va_up_self, stP_len, ← hF.1]
  · have := gOk_cg (u := []) (C' := ((cAt C, cM1 C, cM2 C), (cEr C, cEt C, cTc C, cPc C), (cOc C + 1, cSc C, cHs C, cPs C), (cLs C, va_up (cOd C) (cOc C) (k, (if k = 4 ∨ k = 5 then lkV (xv c) C j else nI 0), nI b, nI f, nI t, nI st.length), cKf C), (cFa C, cSa C, cNs C))) (F' := uOE F) (R' := X.2.2) (h9 k' (by show k' < cOc C; omega)) (Nat.le_refl _) ?_ rfl rfl rfl rfl rfl ?_
    · rw [List.append_nil] at this
      exact this
    · exact va_up_ne _ _ q
    · show va_up (rTn F) (rPa F) (nI (rSz F)) k' = _
      rw [h4, va_up_ne _ _ q]
