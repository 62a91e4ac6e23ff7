/-! ===== names along a trace ===== -/
def kl (c : Cx) (i : Nat) (S : S3) (l : Nat) : Prop := l < i ∧ ∃ q, q < cPc S.1 ∧ rMe S.2.2.2.2 l = nI q ∧ lkS (cNs S.1) (xv c l) (cPc S.1) = some q
theorem kl_fr {c : Cx} {i j l : Nat} {S T : S3} (h : kl c i S l) (hf : fr i S T) (hij : i ≤ j) : kl c j T l := by
  obtain ⟨h1, q, h2, h3, h4⟩ := h
  obtain ⟨_, ⟨e1, e2, _⟩, _, _, e3⟩ := hf
  exact ⟨by omega, q, by rw [e1]; exact h2, (e3 l h1).trans h3, by rw [e1, e2]; exact h4⟩
theorem look {c : Cx} {i : Nat} {pp : List Nat} {C : RS} {R : MR} (hc : xok c) (hA : gA c i C R) (hN : gN c i pp C) (hk : xkd c i = 43) (hE : i < xE c) : xtd c R i = encO (lkS (cNs C) (xv c i) (cPc C)) ∧ ∀ q, lkS (cNs C) (xv c i) (cPc C) = some q → q < cPc C := by
  obtain ⟨a1, a2, a3, a4⟩ := hA
  obtain ⟨n1, n2, n3, n4, n5⟩ := hN
  refine ⟨?_, fun q hq => lkS_lt _ _ _ _ hq⟩
  have htd := td_l (ro := rRo R) (as := nI 1) (sm := fun k => smO (xtb c) (xfi c k) (xli c k) (xfi c i) (xli c i)) i 0 0 pp (fun j => ⟨fun hj => by
    obtain ⟨k, hk', e⟩ := List.getElem_of_mem hj
    obtain ⟨x1, _, x3, _⟩ := n2 k hk'
    rw [e] at x1 x3
    refine ⟨Nat.zero_le _, by omega, ?_⟩
    rw [(a4 j (by omega)).1, x3], fun ⟨_, y2, y3⟩ => by
    obtain ⟨z1, z2⟩ := a4 j (by omega)
    rw [z1] at y3
    exact n4 j (by omega) ((nI_eq (by omega) (by decide)).mp y3)⟩) n3
  have e0 : xtd c R i = tdN (rRo R) (nI 1) (fun k => smO (xtb c) (xfi c k) (xli c k) (xfi c i) (xli c i)) i 0 0 := rfl
  rcases htd with ⟨r, hr, h1, h2⟩ | ⟨h1, h2⟩
  · obtain ⟨x1, x2, x3, x4⟩ := n2 r hr
    have hv : xv c pp[r] = xv c i := Decidable.byContradiction (fun z => h1 ((hc.2.1 _ _ (by omega) hE x2 hk).mpr z))
    have hns : cNs C r = xv c i := x4.trans hv
    rw [e0, h2, Nat.zero_add]
    rcases lk_e (cNs C) (xv c i) (cPc C) with ⟨k, l1, l2, l3⟩ | ⟨l1, l2⟩
    · rw [l2, n5 k r l1 (by omega) (l3.trans hns.symm)]
      rfl
    · exact absurd hns (l2 r (by omega))
  · rw [e0, h2]
    rcases lk_e (cNs C) (xv c i) (cPc C) with ⟨k, l1, l2, l3⟩ | ⟨l1, l2⟩
    · obtain ⟨x1, x2, x3, x4⟩ := n2 k (by omega)
      exact absurd (x4.symm.trans l3) ((hc.2.1 _ _ (by omega) hE x2 hk).mp (h1 _ (List.getElem_mem (by omega))))
    · rw [l1]
      rfl
theorem gS_cg {c : Cx} {i j : Nat} {st : List (Nat × Nat × Nat)} {C C' : RS} {R R' : MR} (h : gS c i st C R) (hij : i ≤ j) (h1 : cSc C' = cSc C ∧ cKf C' = cKf C ∧ cFa C' = cFa C ∧ cSa C' = cSa C) (h2 : cPc C ≤ cPc C') (h3 : ∀ l, l < i → rMe R' l = rMe R l) : gS c j st C' R' := by
  obtain ⟨s1, s2⟩ := h
  obtain ⟨e1, e2, e3, e4⟩ := h1
  refine ⟨e1.trans s1, fun x hx => ?_⟩
  obtain ⟨x1, x2, x3, x4, x5, x6⟩ := s2 x hx
  rw [e2, e3, e4, x1, x2, x3]
  refine ⟨rfl, ?_, ?_, x4, fun z => ?_, fun z => ?_⟩
  · unfold oA
    by_cases q : st[x].1 = 44
    · rw [if_pos q, if_pos q]
    · rw [if_neg q, if_neg q]
      by_cases q2 : st[x].1 = 16 ∨ st[x].1 = 17 ∨ st[x].1 = 19 ∨ st[x].1 = 21
      · rw [if_pos q2, if_pos q2, h3 _ (x5 q2).1]
      · rw [if_neg q2, if_neg q2]
  · unfold oB
    by_cases q2 : st[x].1 = 19 ∨ st[x].1 = 21
    · rw [if_pos q2, if_pos q2, h3 _ (x6 q2).1]
    · rw [if_neg q2, if_neg q2]
  · obtain ⟨y1, y2, y3, y4⟩ := x5 z
    exact ⟨by omega, y2, by omega, (h3 _ y1).trans y4⟩
  · obtain ⟨y1, y2, y3, y4⟩ := x6 z
    exact ⟨by omega, y2, by omega, (h3 _ y1).trans y4⟩
theorem lkE_n {o : Option Nat} {n : Nat} (hn : n < 2 ^ 31) (h : ∀ q, o = some q → q < n) : lkE (encO o) = if o = none then nI 3 else nI 0 := by
  cases o with
  | none => rfl
  | some q =>
    show (if nI q = -1 then nI 3 else nI 0) = _
    rw [if_neg (nIne (by have := h q rfl; omega)), if_neg (Option.some_ne_none q)]
theorem g_name {c : Cx} {i : Nat} {st : List (Nat × Nat × Nat)} {pp : List Nat} {S : S3} (hc : xok c) (hG : GS c i st pp S) (hk : xkd c i = 43) (hE : i + 1 ≤ xE c) (hz : xzf c i = 4) : (GS c (i + 1) st pp (ruS c S [aNam, aRole 4, aLook, aSk]) ∧ fr i S (ruS c S [aNam, aRole 4, aLook, aSk]) ∧ kl c (i + 1) (ruS c S [aNam, aRole 4, aLook, aSk]) i) ∨ Er (ruS c S [aNam, aRole 4, aLook, aSk]) := by
  obtain ⟨C, F, e, b, R⟩ := S
  obtain ⟨hA, hT, hP, hN, hS, he, hb⟩ := hG
  have he : e = nI 0 := he
  have hb : b = 0 := hb
  subst he hb
  have hA : gA c i C R := hA
  have hN : gN c i pp C := hN
  obtain ⟨hl, hq⟩ := look hc hA hN hk (by omega)
  obtain ⟨a1, a2, a3, a4⟩ := id hA
  have hP8 : cPc C ≤ 8 := hP.2.1
  have eX : xeo c 4 i R = (lkE (xtd c R i), uMean i (xtd c R i) R) := rfl
  have es : ruS c (C, F, nI 0, 0, R) [aNam, aRole 4, aLook, aSk] = (cSk (cLook (xv c) C), uSk (uRole 4 (uWord (nI (rTk F)) (uOpen F))), eoX c (nI 0, 4, R)) := rfl
  have eo : eoX c (nI 0, 4, R) = if lkE (xtd c R i) = nI 0 then (nI 0, 0, uSk (uMean i (xtd c R i) R)) else (lkE (xtd c R i), 0, uMean i (xtd c R i) R) := by
    show (if nI 0 = nI 0 then (if (xeo c 4 (rTk R) R).1 = nI 0 then (nI 0, 0, uSk (xeo c 4 (rTk R) R).2) else ((xeo c 4 (rTk R) R).1, 0, (xeo c 4 (rTk R) R).2)) else _) = _
    rw [if_pos rfl, a3, eX]
  rw [es, eo, hl, lkE_n (n := cPc C) (by omega) hq]
  have hcl : cLook (xv c) C = if lkS (cNs C) (xv c i) (cPc C) = none then cNote 3 C else C := by unfold cLook; rw [a2]
  rw [hcl]
  cases ho : lkS (cNs C) (xv c i) (cPc C) with
  | none =>
    rw [if_pos rfl, if_pos rfl, if_neg (by decide)]
    refine .inr ?_
    unfold cNote
    rw [if_pos a1]
    exact ⟨by show ¬ 3 = 0; decide, by show 3 ≤ 5; decide, rfl, a3.trans a2.symm⟩
  | some q =>
    have en : ¬ some q = none := Option.some_ne_none q
    rw [if_neg en, if_neg en, if_pos rfl]
    have hqP := hq q ho
    have hme : ∀ l, l < i → rMe (uSk (uMean i (encO (some q)) R)) l = rMe R l := fun l hl => va_up_ne _ _ (by omega)
    have hmi : rMe (uSk (uMean i (encO (some q)) R)) i = nI q := va_up_self _ _ _
    refine .inl ⟨⟨⟨a1, by show cAt C + 1 = _; rw [a2], by show rTk R + 1 = _; rw [a3], a4⟩, hT, hP, ?_, gS_cg hS (by omega) ⟨rfl, rfl, rfl, rfl⟩ (Nat.le_refl _) hme, rfl, rfl⟩, ⟨⟨rfl, rfl, rfl, rfl⟩, ⟨rfl, rfl, rfl⟩, ⟨rfl, rfl, rfl⟩, ⟨rfl, rfl, rfl, rfl, rfl, rfl⟩, hme⟩, ⟨by omega, q, hqP, hmi, ho⟩⟩
    obtain ⟨n1, n2, n3, n4, n5⟩ := hN
    refine ⟨n1, fun k h => ?_, n3, fun j h1 h2 => ?_, n5⟩
    · obtain ⟨x1, x2⟩ := n2 k h
      exact ⟨by omega, x2⟩
    · by_cases q : j = i
      · rw [q, hz] at h2
        exact absurd h2 (by decide)
      · exact n4 j (by omega) h2
theorem lkV_n {c : Cx} {i l : Nat} {S : S3} (h : kl c i S l) (h8 : cPc S.1 ≤ 8) : lkV (xv c) S.1 l = rMe S.2.2.2.2 l ∧ kn S.2.2.2.2 (cPc S.1) i l := by
  obtain ⟨h1, q, h2, h3, h4⟩ := h
  refine ⟨?_, h1, q, h2, h3⟩
  unfold lkV
  rw [h4, h3]
  show mxX2 (nI q) (nI 0) = nI q
  unfold mxX2
  by_cases z : q = 0
  · subst z
    decide
  · split
    · rename_i h5
      first
        | rfl
        | exact absurd h5 (nI_pos (by omega))
    · rename_i h5
      first
        | rfl
        | exact absurd (nI_lt (a := 0) (b := q) (by omega) (by omega)) h5
        | exact absurd (nI_le (a := 0) (b := q) (by omega) (by omega)) h5
theorem Sm_nm1 {c : Cx} {l k : Nat} (hc : xok c) (hk : k = 16 ∨ k = 17) (hl : xkd c l = 43) : SmT c l ([aNam, aRole 4, aLook, aSk] ++ [aStep k l 0]) := by
  intro st pp S hG hE ha
  have hE : l + 1 ≤ xE c := hE
  have ha : xzf c l = 4 ∧ st.length < 400 ∧ True := ha
  rw [ruS_app]
  rcases g_name hc hG hl hE ha.1 with ⟨h1, h2, h3⟩ | h1
  · obtain ⟨y1, y2⟩ := lkV_n h3 h1.2.2.1.2.1
    have hne : ¬ k = 44 := by omega
    have hk2 : k = 16 ∨ k = 17 ∨ k = 19 ∨ k = 21 := by omega
    have hk3 : ¬ (k = 19 ∨ k = 21) := by omega
    obtain ⟨z1, z2⟩ := g_st (k := k) (x := l) (y := 0) h1 ha.2.1 (by unfold opdA oA; rw [if_neg hne, if_pos hk2, if_neg hne, if_pos hk2]; exact y1) (by unfold opdB oB; rw [if_neg hk3, if_neg hk3]) ⟨fun z => absurd z hne, fun _ => y2, fun z => absurd z hk3⟩
    exact .inl ⟨z1, fr_tr h2 (by omega) z2⟩
  · exact .inr (Er_run h1 _)
theorem Sm_nm2 {c : Cx} {l k : Nat} (hc : xok c) (hk : k = 19 ∨ k = 21) (hl : xkd c l = 43) (hl2 : xkd c (l + 1) = 43) : SmT c l ([aNam, aRole 4, aLook, aSk] ++ ([aNam, aRole 4, aLook, aSk] ++ [aStep k l (l + 1)])) := by
  intro st pp S hG hE ha
  have hE : l + 2 ≤ xE c := hE
  have ha : xzf c l = 4 ∧ xzf c (l + 1) = 4 ∧ st.length < 400 ∧ True := ha
  rw [ruS_app]
  rcases g_name hc hG hl (by omega) ha.1 with ⟨h1, h2, h3⟩ | h1
  · rw [ruS_app]
    rcases g_name hc h1 hl2 (by omega) ha.2.1 with ⟨h4, h5, h6⟩ | h4
    · have h3' := kl_fr h3 h5 (show l + 1 ≤ l + 1 + 1 by omega)
      obtain ⟨y1, y2⟩ := lkV_n h3' h4.2.2.1.2.1
      obtain ⟨y3, y4⟩ := lkV_n h6 h4.2.2.1.2.1
      have hne : ¬ k = 44 := by omega
      have hk2 : k = 16 ∨ k = 17 ∨ k = 19 ∨ k = 21 := by omega
      obtain ⟨z1, z2⟩ := g_st (k := k) (x := l) (y := l + 1) h4 ha.2.2.1 (by unfold opdA oA; rw [if_neg hne, if_pos hk2, if_neg hne, if_pos hk2]; exact y1) (by unfold opdB oB; rw [if_pos hk, if_pos hk]; exact y3) ⟨fun z => absurd z hne, fun _ => y2, fun _ => y4⟩
      exact .inl ⟨z1, fr_tr h2 (by omega) (fr_tr h5 (by omega) z2)⟩
    · exact .inr (Er_run h4 _)
  · exact .inr (Er_run h1 _)
