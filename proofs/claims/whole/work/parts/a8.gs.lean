/-! ===== both readers along a trace: how they stand to each other ===== -/
abbrev S3 : Type := RS × MR × XS
def stS (c : Cx) (S : S3) (a : PA) : S3 := (stepC (xv c) S.1 a, stepR (xnum c) S.2.1 a, stepX c S.2.2 a)
def ruS (c : Cx) (S : S3) (t : List PA) : S3 := t.foldl (stS c) S
theorem ruS_app (c : Cx) (S : S3) (s t : List PA) : ruS c S (s ++ t) = ruS c (ruS c S s) t := List.foldl_append
theorem ruS_e (c : Cx) : ∀ (t : List PA) (S : S3), ruS c S t = (runC (xv c) S.1 t, runR (xnum c) S.2.1 t, runX c S.2.2 t)
  | [], S => rfl
  | a :: t, S => ruS_e c t (stS c S a)
def gA (c : Cx) (i : Nat) (C : RS) (R : MR) : Prop := cEr C = 0 ∧ cAt C = i ∧ rTk R = i ∧ ∀ p, p < xE c → rRo R p = nI (xzf c p) ∧ xzf c p ≤ 7
def gT (C : RS) (R : MR) : Prop := rTw R = cTc C ∧ cTc C ≤ 16 ∧ ∀ k, k < cTc C → rHe R k = cHs C k ∧ ∃ x, x ≤ 20 ∧ cHs C k = nI x
def gP (C : RS) (R : MR) : Prop := rPg R = cPc C ∧ cPc C ≤ 8 ∧ ∀ k, k < cPc C → rAt R k = cPs C k ∧ rLo R k = cLs C k ∧ ∃ p, p < cTc C ∧ cPs C k = nI p
def gN (c : Cx) (i : Nat) (pp : List Nat) (C : RS) : Prop := pp.length = cPc C ∧ (∀ k (h : k < pp.length), pp[k] < i ∧ xkd c pp[k] = 43 ∧ xzf c pp[k] = 1 ∧ cNs C k = xv c pp[k]) ∧ pp.Pairwise (· < ·) ∧ (∀ j, j < i → xzf c j = 1 → j ∈ pp) ∧ ∀ j k, j < cPc C → k < cPc C → cNs C j = cNs C k → j = k
def oA (c : Cx) (R : MR) (x : Nat × Nat × Nat) : Int32 := if x.1 = 44 then xnum c x.2.1 else if x.1 = 16 ∨ x.1 = 17 ∨ x.1 = 19 ∨ x.1 = 21 then rMe R x.2.1 else nI 0
def oB (R : MR) (x : Nat × Nat × Nat) : Int32 := if x.1 = 19 ∨ x.1 = 21 then rMe R x.2.2 else nI 0
def kn (R : MR) (P i l : Nat) : Prop := l < i ∧ ∃ q, q < P ∧ rMe R l = nI q
def sOk (c : Cx) (R : MR) (P i : Nat) (x : Nat × Nat × Nat) : Prop := (x.1 = 44 → ∃ m, m < 1000000 ∧ xnum c x.2.1 = nI m) ∧ (x.1 = 16 ∨ x.1 = 17 ∨ x.1 = 19 ∨ x.1 = 21 → kn R P i x.2.1) ∧ (x.1 = 19 ∨ x.1 = 21 → kn R P i x.2.2)
def gS (c : Cx) (i : Nat) (st : List (Nat × Nat × Nat)) (C : RS) (R : MR) : Prop := cSc C = st.length ∧ ∀ j (h : j < st.length), cKf C j = some st[j].1 ∧ cFa C j = oA c R st[j] ∧ cSa C j = oB R st[j] ∧ sOk c R (cPc C) i st[j]
def GS (c : Cx) (i : Nat) (st : List (Nat × Nat × Nat)) (pp : List Nat) (S : S3) : Prop := gA c i S.1 S.2.2.2.2 ∧ gT S.1 S.2.2.2.2 ∧ gP S.1 S.2.2.2.2 ∧ gN c i pp S.1 ∧ gS c i st S.1 S.2.2.2.2 ∧ S.2.2.1 = nI 0 ∧ S.2.2.2.1 = 0
def Er (S : S3) : Prop := ¬ cEr S.1 = 0 ∧ cEr S.1 ≤ 5 ∧ S.2.2.1 = nI (cEr S.1) ∧ rTk S.2.2.2.2 = cEt S.1
theorem Er_run {c : Cx} {S : S3} (h : Er S) (t : List PA) : Er (ruS c S t) := by
  obtain ⟨h1, h2, h3, h4⟩ := h
  rw [ruS_e]
  obtain ⟨x1, x2⟩ := er_run (v := xv c) t S.1 h1
  have hz : ¬ S.2.2.1 = nI 0 := by
    rw [h3]
    exact fun z => h1 ((nI_eq (by omega) (by decide)).mp z)
  obtain ⟨y1, y2⟩ := runX_z c t S.2.2 hz
  refine ⟨?_, ?_, ?_, ?_⟩
  · show ¬ cEr (runC (xv c) S.1 t) = 0
    rw [x1]
    exact h1
  · show cEr (runC (xv c) S.1 t) ≤ 5
    rw [x1]
    exact h2
  · show (runX c S.2.2 t).1 = nI (cEr (runC (xv c) S.1 t))
    rw [x1, y1]
    exact h3
  · show rTk (runX c S.2.2 t).2.2 = cEt (runC (xv c) S.1 t)
    rw [x2, y2]
    exact h4
def fr (i : Nat) (S T : S3) : Prop := (cOc T.1 = cOc S.1 ∧ cOd T.1 = cOd S.1 ∧ cM1 T.1 = cM1 S.1 ∧ cM2 T.1 = cM2 S.1) ∧ (cPc T.1 = cPc S.1 ∧ cNs T.1 = cNs S.1 ∧ cTc T.1 = cTc S.1) ∧ (rOd T.2.2.2.2 = rOd S.2.2.2.2 ∧ rDo T.2.2.2.2 = rDo S.2.2.2.2 ∧ rTo T.2.2.2.2 = rTo S.2.2.2.2) ∧ (rOr T.2.1 = rOr S.2.1 ∧ rPa T.2.1 = rPa S.2.1 ∧ rRi T.2.1 = rRi S.2.1 ∧ rSu T.2.1 = rSu S.2.1 ∧ rTe T.2.1 = rTe S.2.1 ∧ rTn T.2.1 = rTn S.2.1) ∧ ∀ l, l < i → rMe T.2.2.2.2 l = rMe S.2.2.2.2 l
theorem fr_rfl (i : Nat) (S : S3) : fr i S S := ⟨⟨rfl, rfl, rfl, rfl⟩, ⟨rfl, rfl, rfl⟩, ⟨rfl, rfl, rfl⟩, ⟨rfl, rfl, rfl, rfl, rfl, rfl⟩, fun _ _ => rfl⟩
theorem fr_tr {i j : Nat} {S T U : S3} (h : fr i S T) (hij : i ≤ j) (h' : fr j T U) : fr i S U := by
  obtain ⟨⟨a1, a2, a3, a4⟩, ⟨a5, a6, a7⟩, ⟨a8, a9, a10⟩, ⟨a11, a12, a13, a14, a15, a16⟩, a17⟩ := h
  obtain ⟨⟨b1, b2, b3, b4⟩, ⟨b5, b6, b7⟩, ⟨b8, b9, b10⟩, ⟨b11, b12, b13, b14, b15, b16⟩, b17⟩ := h'
  exact ⟨⟨b1.trans a1, b2.trans a2, b3.trans a3, b4.trans a4⟩, ⟨b5.trans a5, b6.trans a6, b7.trans a7⟩, ⟨b8.trans a8, b9.trans a9, b10.trans a10⟩, ⟨b11.trans a11, b12.trans a12, b13.trans a13, b14.trans a14, b15.trans a15, b16.trans a16⟩, fun l hl => (b17 l (by omega)).trans (a17 l hl)⟩
def SmT (c : Cx) (i : Nat) (t : List PA) : Prop := ∀ st pp S, GS c i st pp S → i + skN t ≤ xE c → ag (xzf c) i 0 st.length t → (GS c (i + skN t) (st ++ stT t) pp (ruS c S t) ∧ fr i S (ruS c S t)) ∨ Er (ruS c S t)
theorem SmT_app {c : Cx} {i : Nat} {s t : List PA} (h1 : SmT c i s) (h2 : SmT c (i + skN s) t) : SmT c i (s ++ t) := by
  intro st pp S hG hE ha
  rw [skN_app] at hE
  obtain ⟨ha1, ha2⟩ := (ag_app _ _ _ _ _ _).mp ha
  rw [ruS_app]
  rcases h1 st pp S hG (by omega) ha1 with ⟨hG', hf⟩ | he
  · have hb : bE 0 s = 0 := by
      have e := bE_X c s S.2.2
      rw [hG.2.2.2.2.2.2] at e
      have e2 : (ruS c S s).2.2.2.1 = 0 := hG'.2.2.2.2.2.2
      rw [ruS_e] at e2
      exact e.symm.trans e2
    rw [hb, ← List.length_append] at ha2
    rcases h2 (st ++ stT s) pp _ hG' (by omega) ha2 with ⟨hG2, hf2⟩ | he
    · rw [skN_app, stT_app, ← Nat.add_assoc, ← List.append_assoc]
      exact .inl ⟨hG2, fr_tr hf (by omega) hf2⟩
    · exact .inr he
  · exact .inr (Er_run he _)
/-! single pieces -/
theorem g_sk {c : Cx} {i : Nat} {st : List (Nat × Nat × Nat)} {pp : List Nat} {S : S3} (hG : GS c i st pp S) (hz : xzf c i = 0) : GS c (i + 1) st pp (stS c S aSk) ∧ fr i S (stS c S aSk) := by
  obtain ⟨C, F, e, b, R⟩ := S
  obtain ⟨⟨a1, a2, a3, a4⟩, ⟨t1, t2, t3⟩, ⟨p1, p2, p3⟩, ⟨n1, n2, n3, n4, n5⟩, ⟨s1, s2⟩, he, hb⟩ := hG
  have he : e = nI 0 := he
  have hb : b = 0 := hb
  subst he hb
  have es : stS c (C, F, nI 0, 0, R) aSk = (cSk C, uSk F, nI 0, 0, uSk R) := rfl
  rw [es]
  refine ⟨⟨⟨a1, by show cAt C + 1 = _; rw [show cAt C = i from a2], by show rTk R + 1 = _; rw [show rTk R = i from a3], a4⟩, ⟨t1, t2, t3⟩, ⟨p1, p2, p3⟩, ⟨n1, fun k h => ?_, n3, fun j h1 h2 => ?_, n5⟩, ⟨s1, fun j h => ?_⟩, rfl, rfl⟩, ⟨rfl, rfl, rfl, rfl⟩, ⟨rfl, rfl, rfl⟩, ⟨rfl, rfl, rfl⟩, ⟨rfl, rfl, rfl, rfl, rfl, rfl⟩, fun _ _ => rfl⟩
  · obtain ⟨x1, x2⟩ := n2 k h
    exact ⟨by omega, x2⟩
  · by_cases q : j = i
    · rw [q, hz] at h2
      exact absurd h2 (by decide)
    · exact n4 j (by omega) h2
  · obtain ⟨x1, x2, x3, x4, x5, x6⟩ := s2 j h
    exact ⟨x1, x2, x3, x4, fun z => ⟨by have := (x5 z).1; omega, (x5 z).2⟩, fun z => ⟨by have := (x6 z).1; omega, (x6 z).2⟩⟩
/-- actions that the second pass and the class pass by -/
def qtA (a : PA) : Bool := a.1 == 0 || a.1 == 2 || a.1 == 3 || a.1 == 4 || a.1 == 19 || a.1 == 20
def qt : List PA → Bool
  | [] => true
  | a :: t => qtA a && qt t
theorem g_no {c : Cx} {i : Nat} {st : List (Nat × Nat × Nat)} {pp : List Nat} {S : S3} {a : PA} (hG : GS c i st pp S) (ha : a.1 = 2 ∨ a.1 = 3 ∨ a.1 = 4 ∨ a.1 = 19 ∨ a.1 = 20) : GS c i st pp (stS c S a) ∧ fr i S (stS c S a) := by
  obtain ⟨k, x, y, z⟩ := a
  have ha : k = 2 ∨ k = 3 ∨ k = 4 ∨ k = 19 ∨ k = 20 := ha
  rcases ha with rfl | rfl | rfl | rfl | rfl <;> exact ⟨hG, ⟨rfl, rfl, rfl, rfl⟩, ⟨rfl, rfl, rfl⟩, ⟨rfl, rfl, rfl⟩, ⟨rfl, rfl, rfl, rfl, rfl, rfl⟩, fun _ _ => rfl⟩
theorem Sm_nil {c : Cx} {i : Nat} : SmT c i [] := by
  intro st pp S hG _ _
  rw [show skN [] = 0 from rfl, show stT [] = [] from rfl, List.append_nil, Nat.add_zero]
  exact .inl ⟨hG, fr_rfl _ _⟩
theorem ru_0 {c : Cx} {S : S3} {a : PA} (h : a.1 = 0) : ruS c S [a] = stS c S aSk := by
  obtain ⟨k, x, y, z⟩ := a
  have h : k = 0 := h
  subst h
  have e : ∀ a : PA, a.1 = 0 → stepX c S.2.2 a = eoX c S.2.2 := fun a h => by
    unfold stepX
    rw [if_neg (by omega), if_pos h]
  show (cSk S.1, uSk S.2.1, stepX c S.2.2 (0, x, y, z)) = (cSk S.1, uSk S.2.1, stepX c S.2.2 aSk)
  rw [e _ rfl, e aSk rfl]
theorem Sm_q {c : Cx} (t : List PA) : ∀ (i : Nat), qt t = true → SmT c i t := by
  induction t with
  | nil => exact fun i _ => Sm_nil
  | cons a t ih =>
    intro i h
    have h' : qtA a = true ∧ qt t = true := by
      have := h
      simp only [qt, Bool.and_eq_true] at this
      exact this
    have h1 : SmT c i [a] := by
      intro st pp S hG hE ha
      by_cases p0 : a.1 = 0
      · have ea : ruS c S [a] = stS c S aSk := ru_0 p0
        rw [ag, if_neg (show ¬ a.1 = 1 by omega), if_pos p0] at ha
        have e1 : skN [a] = 1 := by rw [skN, if_pos p0]; rfl
        have e2 : stT [a] = [] := by rw [stT, if_neg (show ¬ a.1 = 5 by omega)]; rfl
        rw [ea, e1, e2, List.append_nil]
        exact .inl (g_sk hG ha.1)
      · have p : a.1 = 2 ∨ a.1 = 3 ∨ a.1 = 4 ∨ a.1 = 19 ∨ a.1 = 20 := by
          have := h'.1
          simp only [qtA, Bool.or_eq_true, beq_iff_eq] at this
          omega
        have e1 : skN [a] = 0 := by rw [skN, if_neg p0]; rfl
        have e2 : stT [a] = [] := by rw [stT, if_neg (show ¬ a.1 = 5 by omega)]; rfl
        rw [e1, e2, List.append_nil]
        exact .inl (g_no hG p)
    exact SmT_app (s := [a]) h1 (ih _ h'.2)
theorem g_st {c : Cx} {i k x y : Nat} {st : List (Nat × Nat × Nat)} {pp : List Nat} {S : S3} (hG : GS c i st pp S) (hl : st.length < 400) (h1 : opdA (xv c) S.1 k x = oA c S.2.2.2.2 (k, x, y)) (h2 : opdB (xv c) S.1 k y = oB S.2.2.2.2 (k, x, y)) (h3 : sOk c S.2.2.2.2 (cPc S.1) i (k, x, y)) : GS c i (st ++ [(k, x, y)]) pp (stS c S (aStep k x y)) ∧ fr i S (stS c S (aStep k x y)) := by
  obtain ⟨C, F, e, b, R⟩ := S
  obtain ⟨⟨a1, a2, a3, a4⟩, ⟨t1, t2, t3⟩, ⟨p1, p2, p3⟩, ⟨n1, n2, n3, n4, n5⟩, ⟨s1, s2⟩, he, hb⟩ := hG
  have s1 : cSc C = st.length := s1
  have h1 : opdA (xv c) C k x = oA c R (k, x, y) := h1
  have h2 : opdB (xv c) C k y = oB R (k, x, y) := h2
  have es : stS c (C, F, e, b, R) (aStep k x y) = (((cAt C, cM1 C, cM2 C), (cEr C, cEt C, cTc C, cPc C), (cOc C, cSc C + 1, cHs C, cPs C), (cLs C, cOd C, va_up (cKf C) (cSc C) (some k)), (va_up (cFa C) (cSc C) (oA c R (k, x, y)), va_up (cSa C) (cSc C) (oB R (k, x, y)), cNs C)), F, e, b, R) := by
    show (cStep (xv c) k x y C, F, e, b, R) = _
    unfold cStep cAddS
    rw [if_pos (by omega), h1, h2]
  rw [es]
  refine ⟨⟨⟨a1, a2, a3, a4⟩, ⟨t1, t2, t3⟩, ⟨p1, p2, p3⟩, ⟨n1, n2, n3, n4, n5⟩, ⟨?_, fun j h => ?_⟩, he, hb⟩, ⟨rfl, rfl, rfl, rfl⟩, ⟨rfl, rfl, rfl⟩, ⟨rfl, rfl, rfl⟩, ⟨rfl, rfl, rfl, rfl, rfl, rfl⟩, fun _ _ => rfl⟩
  · show cSc C + 1 = _
    rw [s1, List.length_append]
    rfl
  · show va_up (cKf C) (cSc C) (some k) j = _ ∧ va_up (cFa C) (cSc C) _ j = _ ∧ va_up (cSa C) (cSc C) _ j = _ ∧ _
    rw [List.length_append] at h
    have h : j < st.length + 1 := h
    by_cases q : j = st.length
    · subst q
      rw [s1, va_up_self, va_up_self, va_up_self]
      rw [List.getElem_append_right (Nat.le_refl _)]
      simp only [Nat.sub_self, List.getElem_cons_zero]
      exact ⟨trivial, trivial, trivial, h3⟩
    · rw [va_up_ne _ _ (by omega), va_up_ne _ _ (by omega), va_up_ne _ _ (by omega), List.getElem_append_left (by omega)]
      exact s2 j (by omega)
theorem Sm_st {c : Cx} {i k x y : Nat} (hk : ¬ k = 44 ∧ ¬ k = 16 ∧ ¬ k = 17 ∧ ¬ k = 19 ∧ ¬ k = 21) : SmT c i [aStep k x y] := by
  intro st pp S hG hE ha
  obtain ⟨k1, k2, k3, k4, k5⟩ := hk
  have ha : st.length < 400 ∧ True := ha
  refine .inl (g_st hG ha.1 ?_ ?_ ⟨fun z => absurd z k1, fun z => by omega, fun z => by omega⟩)
  · unfold opdA oA
    rw [if_neg k1, if_neg (by omega), if_neg (by exact k1), if_neg (by show ¬ (k = 16 ∨ k = 17 ∨ k = 19 ∨ k = 21); omega)]
  · unfold opdB oB
    rw [if_neg (by omega), if_neg (by show ¬ (k = 19 ∨ k = 21); omega)]
theorem Sm_nu1 {c : Cx} {i : Nat} (hc : xok c) (hi : i < xE c) (hk : xkd c i = 44) : SmT c i [aPut 44, aNum, aStep 44 i i, aSk] := by
  refine SmT_app (s := [aPut 44, aNum]) (Sm_q _ _ rfl) (SmT_app (s := [aStep 44 i i]) ?_ (Sm_q _ _ rfl))
  intro st pp S hG hE ha
  have ha : st.length < 400 ∧ True := ha
  have hE : i + 0 ≤ xE c := hE
  exact .inl (g_st hG ha.1 (hc.1 i hi hk).1 rfl ⟨fun _ => (hc.1 i hi hk).2, fun z => by have z : 44 = 16 ∨ 44 = 17 ∨ 44 = 19 ∨ 44 = 21 := z; omega, fun z => by have z : 44 = 19 ∨ 44 = 21 := z; omega⟩)
theorem Sm_nu {c : Cx} {i : Nat} (hc : xok c) (hk : xkd c i = 44) : SmT c i [aPut 44, aNum, aStep 44 i i, aSk] := by
  by_cases hi : i < xE c
  · exact Sm_nu1 hc hi hk
  · intro st pp S hG hE ha
    have hE : i + 1 ≤ xE c := hE
    omega
