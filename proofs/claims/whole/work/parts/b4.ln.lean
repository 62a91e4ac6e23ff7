/-! ===== both readers: lines ===== -/
def seg (st : List (Nat × Nat × Nat)) (f m : Nat) : List (Nat × Nat × Nat) := (st.drop f).take m
theorem seg_app {st u : List (Nat × Nat × Nat)} {f m : Nat} (h : f + m ≤ st.length) : seg (st ++ u) f m = seg st f m := by
  unfold seg
  rw [List.drop_append_of_le_length (by omega), List.take_append_of_le_length (by rw [List.length_drop]; omega)]
theorem stP_app {st u : List (Nat × Nat × Nat)} {i : Nat} (h : i ≤ st.length) : stP (st ++ u) i = stP st i := by
  unfold stP
  rw [List.take_append_of_le_length h]
theorem stP_len (st : List (Nat × Nat × Nat)) : stP st st.length = (encA st).length := by
  unfold stP
  rw [List.take_length]
theorem seg_end (st u : List (Nat × Nat × Nat)) : seg (st ++ u) st.length u.length = u := by
  unfold seg
  rw [List.drop_left, List.take_length]
def gOk (st : List (Nat × Nat × Nat)) (P : Nat) (C : RS) (F R : MR) (k : Nat) : Prop := ∃ (kd q f t e : Nat) (b : Int32), cOd C k = (kd, nI q, b, nI f, nI t, nI e) ∧ (b = nI 0 ∨ b = nI 1) ∧ (f ≤ t ∧ t ≤ e ∧ e ≤ st.length) ∧ ((kd = 4 ∨ kd = 5) ∧ q < P ∧ rTo R k = nI q ∧ rRi F k = b ∨ (kd = 6 ∨ kd = 7) ∧ q = 0 ∧ tyS (seg st f (t - f)) [] [false]) ∧ (t < e → tyS (seg st t (e - t)) [] [true]) ∧ rDo R k = nI kd ∧ rSu F k = nI (stP st f) ∧ rTe F k = nI (stP st t) ∧ rTn F k = nI (stP st e)
def gO (st : List (Nat × Nat × Nat)) (S : S3) : Prop := rOd S.2.2.2.2 = cOc S.1 ∧ cOc S.1 ≤ 16 ∧ rOr S.2.1 = cOc S.1 ∧ ∀ k, k < cOc S.1 → gOk st (cPc S.1) S.1 S.2.1 S.2.2.2.2 k
theorem gOk_cg {st u : List (Nat × Nat × Nat)} {P P' : Nat} {C C' : RS} {F F' R R' : MR} {k : Nat} (h : gOk st P C F R k) (hP : P ≤ P') (h1 : cOd C' k = cOd C k) (h2 : rTo R' k = rTo R k) (h3 : rDo R' k = rDo R k) (h4 : rRi F' k = rRi F k) (h5 : rSu F' k = rSu F k) (h6 : rTe F' k = rTe F k) (h7 : rTn F' k = rTn F k) : gOk (st ++ u) P' C' F' R' k := by
  obtain ⟨kd, q, f, t, e, b, x1, x2, ⟨x3, x4, x5⟩, x6, x7, x8, x9, x10, x11⟩ := h
  refine ⟨kd, q, f, t, e, b, h1.trans x1, x2, ⟨x3, x4, by rw [List.length_append]; omega⟩, ?_, fun z => ?_, h3.trans x8, ?_, ?_, ?_⟩
  · rcases x6 with ⟨y1, y2, y3, y4⟩ | ⟨y1, y2, y3⟩
    · exact .inl ⟨y1, by omega, h2.trans y3, h4.trans y4⟩
    · refine .inr ⟨y1, y2, ?_⟩
      rw [seg_app (by omega)]
      exact y3
  · rw [seg_app (by omega)]
    exact x7 z
  · rw [h5, x9, stP_app (by omega)]
  · rw [h6, x10, stP_app (by omega)]
  · rw [h7, x11, stP_app (by omega)]
theorem gO_fr {i : Nat} {st u : List (Nat × Nat × Nat)} {S T : S3} (h : gO st S) (hf : fr i S T) : gO (st ++ u) T := by
  obtain ⟨h1, h2, h3, h4⟩ := h
  obtain ⟨⟨f1, f2, f3, f4⟩, ⟨f5, f6, f7⟩, ⟨f8, f9, f10⟩, ⟨f11, f12, f13, f14, f15, f16⟩, f17⟩ := hf
  refine ⟨by rw [f8, f1]; exact h1, by rw [f1]; exact h2, by rw [f11, f1]; exact h3, fun k hk => ?_⟩
  rw [f1] at hk
  exact gOk_cg (h4 k hk) (by rw [f5]; exact Nat.le_refl _) (by rw [f2]) (by rw [f10]) (by rw [f9]) (by rw [f13]) (by rw [f14]) (by rw [f15]) (by rw [f16])
def LR (c : Cx) (i : Nat) (st : List (Nat × Nat × Nat)) (pp : List Nat) (S : S3) : Prop := GS c i st pp S ∧ gO st S ∧ FC c (encA st) S.2.1 ∧ rTk S.2.1 = i
def LnT (c : Cx) (i : Nat) (t : List PA) : Prop := ∀ st pp S, LR c i st pp S → i + skN t ≤ xE c → ag (xzf c) i 0 st.length t → (∃ pp', LR c (i + skN t) (st ++ stT t) pp' (ruS c S t) ∧ cTc (ruS c S t).1 = cTc S.1) ∨ Er (ruS c S t)
theorem ruS_F (c : Cx) (S : S3) (t : List PA) : (ruS c S t).2.1 = runR (xnum c) S.2.1 t := by rw [ruS_e]
theorem LnT_app {c : Cx} {i : Nat} {s t : List PA} (h1 : LnT c i s) (h2 : LnT c (i + skN s) t) : LnT c i (s ++ t) := by
  intro st pp S hG hE ha
  rw [skN_app] at hE
  obtain ⟨ha1, ha2⟩ := (ag_app _ _ _ _ _ _).mp ha
  rw [ruS_app]
  rcases h1 st pp S hG (by omega) ha1 with ⟨pp', hG', hc'⟩ | he
  · have hb : bE 0 s = 0 := by
      have e := bE_X c s S.2.2
      rw [hG.1.2.2.2.2.2.2] at e
      have e2 : (ruS c S s).2.2.2.1 = 0 := hG'.1.2.2.2.2.2.2
      rw [ruS_e] at e2
      exact e.symm.trans e2
    rw [hb, ← List.length_append] at ha2
    rcases h2 (st ++ stT s) pp' _ hG' (by omega) ha2 with ⟨pp2, hG2, hc2⟩ | he
    · rw [skN_app, stT_app, ← Nat.add_assoc, ← List.append_assoc]
      exact .inl ⟨pp2, hG2, hc2.trans hc'⟩
    · exact .inr he
  · exact .inr (Er_run he _)
theorem Ln_Sm {c : Cx} {i : Nat} {t : List PA} (h : SmT c i t) (hw : wdT i t = encA (stT t)) : LnT c i t := by
  intro st pp S hG hE ha
  obtain ⟨g1, g2, g3, g4⟩ := hG
  rcases h st pp S g1 hE ha with ⟨x1, x2⟩ | he
  · refine .inl ⟨pp, ⟨x1, gO_fr g2 x2, ?_, ?_⟩, x2.2.1.2.2⟩
    · rw [ruS_F, encA_app, ← hw]
      exact FC_run c t _ i _ g3 g4
    · rw [ruS_F, run_tk, g4]
  · exact .inr he
def LnP (c : Cx) (i : Nat) (r : PR) : Prop := r.1 = true → LnT c i r.2
def LnG (c : Cx) (p : Nat → PR) : Prop := ∀ i, LnP c i (p i)
theorem Ln_seq {c : Cx} {i : Nat} {a : PR} {f : Nat → PR} (ha : LnP c i a) (hf : LnG c f) : LnP c i (pSeq i a f) := by
  unfold pSeq
  by_cases h : a.1 = true
  · rw [if_pos h]
    exact fun h2 => LnT_app (ha h) (hf _ h2)
  · rw [if_neg h]
    exact fun z => absurd z h
theorem Ln_no {c : Cx} {i : Nat} {t : List PA} : LnP c i (pNo t) := fun h => absurd h Bool.false_ne_true
theorem Ln_take {c : Cx} {k : Nat} : LnG c (pTake (xkd c) k) := by
  intro i
  unfold pTake
  split
  · exact fun _ => Ln_Sm (Sm_q _ _ rfl) rfl
  · exact Ln_no
/-! a pigeon -/
theorem gA_sk {c : Cx} {i : Nat} {C : RS} {R : MR} (h : gA c i C R) : gA c (i + 1) (cSk C) (uSk R) := ⟨h.1, by show cAt C + 1 = _; rw [h.2.1], by show rTk R + 1 = _; rw [h.2.2.1], h.2.2.2⟩
theorem e_rng {c : Cx} {i z : Nat} {C : RS} {F R : MR} {hi : Int32} {lo : Nat} (hc : xok c) (hA : gA c i C R) (hi0 : i < xE c) (hk : xkd c i = 44) (hz : z = 6 ∧ lo = 0 ∧ hi = nI (cTc C) - nI 1 ∧ rTw R = cTc C ∨ z = 7 ∧ lo = 1 ∧ hi = nI 9) : (ruS c (C, F, nI 0, 0, R) [aRole z, aRng (z - 6), aSk] = (cSk C, uSk (uRole z F), nI 0, 0, uSk R) ∧ ¬ xnum c i < nI lo ∧ xnum c i ≤ hi) ∨ Er (ruS c (C, F, nI 0, 0, R) [aRole z, aRng (z - 6), aSk]) := by
  obtain ⟨a1, a2, a3, a4⟩ := hA
  have hv := (hc.1 i hi0 hk).1
  have e1 : cRng (xv c) (z - 6) C = cRng1 (xnum c i) (nI lo) hi C := by
    unfold cRng
    rw [a2, hv]
    rcases hz with ⟨rfl, rfl, rfl, _⟩ | ⟨rfl, rfl, rfl⟩ <;> rfl
  have e2 : xeo c z i R = (inO (xnum c i) (nI lo) hi, R) := by
    rcases hz with ⟨rfl, rfl, rfl, h⟩ | ⟨rfl, rfl, rfl⟩
    · show (inO (xnum c i) (nI 0) (nI (rTw R) - nI 1), R) = _
      rw [h]
    · rfl
  have es : ruS c (C, F, nI 0, 0, R) [aRole z, aRng (z - 6), aSk] = (cSk (cRng (xv c) (z - 6) C), uSk (uRole z F), eoX c (nI 0, z, R)) := rfl
  have eo : eoX c (nI 0, z, R) = if inO (xnum c i) (nI lo) hi = nI 0 then (nI 0, 0, uSk R) else (inO (xnum c i) (nI lo) hi, 0, R) := by
    show (if nI 0 = nI 0 then (if (xeo c z (rTk R) R).1 = nI 0 then (nI 0, 0, uSk (xeo c z (rTk R) R).2) else ((xeo c z (rTk R) R).1, 0, (xeo c z (rTk R) R).2)) else _) = _
    rw [if_pos rfl, a3, e2]
  have n5 : ¬ nI 5 = nI 0 := by decide
  have er5 : Er (cSk (cNote 5 C), uSk (uRole z F), nI 5, 0, R) := by
    unfold cNote
    rw [if_pos a1]
    exact ⟨by show ¬ 5 = 0; decide, by show 5 ≤ 5; decide, rfl, a3.trans a2.symm⟩
  rw [es, eo, e1]
  unfold cRng1 inO
  by_cases q1 : xnum c i < nI lo
  · rw [if_pos q1, if_pos q1, if_neg n5]
    exact .inr er5
  · rw [if_neg q1, if_neg q1]
    by_cases q2 : hi < xnum c i
    · rw [if_pos q2, if_neg n5, if_neg (Int32.not_le.mpr q2)]
      exact .inr er5
    · rw [if_neg q2, if_pos rfl, if_pos (Int32.not_lt.mp q2)]
      exact .inl ⟨rfl, q1, Int32.not_lt.mp q2⟩
theorem dup_n {v : Nat → Int64} {x : Int64} {R : RS} : ∀ k, (∀ j, j < k → ¬ cNs R j = x) → cDup v x k R = R
  | 0, _ => rfl
  | k + 1, h => by
    rw [cDup, if_neg (h k (by omega)), dup_n k (fun j hj => h j (by omega))]
theorem dup_s {v : Nat → Int64} {x : Int64} {R : RS} (h0 : cEr R = 0) : ∀ k j, j < k → cNs R j = x → cDup v x k R = cNote 2 R
  | 0, j, h, _ => absurd h (by omega)
  | k + 1, j, h, e => by
    have h2 : cNote 2 (cNote 2 R) = cNote 2 R := by
      have : ¬ cEr (cNote 2 R) = 0 := by
        unfold cNote
        rw [if_pos h0]
        exact fun z => absurd (show 2 = 0 from z) (by decide)
      exact nt_k this
    rw [cDup]
    by_cases q : j < k
    · rw [dup_s h0 k j q e, h2]
      split <;> rfl
    · have : j = k := by omega
      subst this
      rw [if_pos e]
      by_cases r : ∃ j', j' < j ∧ cNs R j' = x
      · obtain ⟨j', r1, r2⟩ := r
        rw [dup_s h0 j j' r1 r2, h2]
      · rw [dup_n j (fun j' hj z => r ⟨j', hj, z⟩)]
theorem x_new {c : Cx} {i : Nat} {pp : List Nat} {C : RS} {F R : MR} (hc : xok c) (hA : gA c i C R) (hP : rPg R = cPc C ∧ cPc C ≤ 8) (hN : gN c i pp C) (hk : xkd c i = 43) (hE : i + 1 ≤ xE c) (hz : xzf c i = 1) : (ruS c (C, F, nI 0, 0, R) [aRole 1, aNew, aSk] = (cSk (cSet (xv c i) C), uSk (uRole 1 F), nI 0, 0, uSk (uPig (xnum c (i + 2)) (xnum c (i + 4)) R)) ∧ cPc C < 8 ∧ ∀ k, k < cPc C → ¬ cNs C k = xv c i) ∨ Er (ruS c (C, F, nI 0, 0, R) [aRole 1, aNew, aSk]) := by
  obtain ⟨hl, hq⟩ := look hc hA hN hk (by omega)
  obtain ⟨a1, a2, a3, a4⟩ := hA
  obtain ⟨p1, p2⟩ := hP
  have e2 : xeo c 1 i R = if xtd c R i = -1 then (if rPg R = 8 then (nI 4, R) else (nI 0, uPig (xnum c (i + 2)) (xnum c (i + 4)) R)) else (nI 2, R) := by
    have := (a4 i (by omega)).1
    rw [hz] at this
    show (if tdO (xtb c) (xfi c) (xli c) (rRo R) (rRo R i) i = -1 then _ else _) = _
    rw [this]
    rfl
  have es : ruS c (C, F, nI 0, 0, R) [aRole 1, aNew, aSk] = (cSk (cNew (xv c) C), uSk (uRole 1 F), eoX c (nI 0, 1, R)) := rfl
  have eo : eoX c (nI 0, 1, R) = if (xeo c 1 i R).1 = nI 0 then (nI 0, 0, uSk (xeo c 1 i R).2) else ((xeo c 1 i R).1, 0, (xeo c 1 i R).2) := by
    show (if nI 0 = nI 0 then (if (xeo c 1 (rTk R) R).1 = nI 0 then (nI 0, 0, uSk (xeo c 1 (rTk R) R).2) else ((xeo c 1 (rTk R) R).1, 0, (xeo c 1 (rTk R) R).2)) else _) = _
    rw [if_pos rfl, a3]
  rw [es, eo, e2, hl]
  unfold cNew
  rw [a2]
  have n2 : ¬ nI 2 = nI 0 := by decide
  have n4 : ¬ nI 4 = nI 0 := by decide
  rcases lk_e (cNs C) (xv c i) (cPc C) with ⟨k, l1, l2, l3⟩ | ⟨l1, l2⟩
  · rw [l2]
    have : ¬ encO (some k) = -1 := nIne (by omega)
    rw [if_neg this, if_neg n2, dup_s a1 _ k l1 l3]
    refine .inr ?_
    have ee : cEr (if cPc C < 8 then cSet (xv c i) (cNote 2 C) else cNote 4 (cNote 2 C)) = 2 ∧ cEt (if cPc C < 8 then cSet (xv c i) (cNote 2 C) else cNote 4 (cNote 2 C)) = cAt C := by
      have h2 : cNote 2 C = ((cAt C, cM1 C, cM2 C), (2, cAt C, cTc C, cPc C), (cOc C, cSc C, cHs C, cPs C), (cLs C, cOd C, cKf C), (cFa C, cSa C, cNs C)) := if_pos a1
      rw [h2]
      split
      · exact ⟨rfl, rfl⟩
      · rw [nt_k (by show ¬ 2 = 0; decide)]
        exact ⟨rfl, rfl⟩
    refine ⟨?_, ?_, ?_, ?_⟩
    · show ¬ cEr (if cPc C < 8 then cSet (xv c i) (cNote 2 C) else cNote 4 (cNote 2 C)) = 0
      rw [ee.1]
      decide
    · show cEr (if cPc C < 8 then cSet (xv c i) (cNote 2 C) else cNote 4 (cNote 2 C)) ≤ 5
      rw [ee.1]
      decide
    · show nI 2 = nI (cEr (if cPc C < 8 then cSet (xv c i) (cNote 2 C) else cNote 4 (cNote 2 C)))
      rw [ee.1]
    · show rTk R = cEt (if cPc C < 8 then cSet (xv c i) (cNote 2 C) else cNote 4 (cNote 2 C))
      rw [ee.2, a3, a2]
  · rw [l1, if_pos (show encO none = -1 from rfl), dup_n _ l2, p1]
    by_cases q : cPc C = 8
    · rw [if_pos q, if_neg n4, if_neg (by omega)]
      refine .inr ?_
      unfold cNote
      rw [if_pos a1]
      exact ⟨by show ¬ 4 = 0; decide, by show 4 ≤ 5; decide, rfl, a3.trans a2.symm⟩
    · rw [if_neg q, if_pos rfl, if_pos (by omega)]
      exact .inl ⟨rfl, by omega, l2⟩
