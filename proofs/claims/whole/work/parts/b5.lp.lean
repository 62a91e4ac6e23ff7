/-! ===== both readers: a pigeon's line ===== -/
def tPig (i : Nat) : List PA := [aSk] ++ ([aRole 1, aNew, aSk] ++ ([aSk] ++ ([aRole 6, aRng 0, aSk] ++ ([aSk] ++ ([aRole 7, aRng 1, aSk] ++ [aPig (i + 3) (i + 5)])))))
theorem pPig_ok {kd : Nat → Nat} {i : Nat} (h : (pPig kd i).1 = true) : kd (i + 1) = 43 ∧ kd (i + 3) = 44 ∧ kd (i + 5) = 44 ∧ (pPig kd i).2 = tPig i := by
  unfold pPig pTake pAs at h ⊢
  by_cases h1 : kd i = 1
  · by_cases h2 : kd (i + 1) = 43
    · by_cases h3 : kd (i + 2) = 2
      · by_cases h4 : kd (i + 3) = 44
        · by_cases h5 : kd (i + 4) = 3
          · by_cases h6 : kd (i + 5) = 44
            · refine ⟨h2, h4, h6, ?_⟩
              simp [pSeq, pOk, pNo, h1, h2, h3, h4, h5, h6, skN, aSk, aRole, aNew, aRng, aPig, Nat.add_assoc, tPig]
            · simp [pSeq, pOk, pNo, h1, h2, h3, h4, h5, h6, skN, aSk, aRole, aNew, aRng, aPig, Nat.add_assoc] at h
          · simp [pSeq, pOk, pNo, h1, h2, h3, h4, h5, skN, aSk, aRole, aNew, aRng, aPig, Nat.add_assoc] at h
        · simp [pSeq, pOk, pNo, h1, h2, h3, h4, skN, aSk, aRole, aNew, aRng, aPig, Nat.add_assoc] at h
      · simp [pSeq, pOk, pNo, h1, h2, h3, skN, aSk, aRole, aNew, aRng, aPig, Nat.add_assoc] at h
    · simp [pSeq, pOk, pNo, h1, h2, skN, aSk, aRole, aNew, aRng, aPig, Nat.add_assoc] at h
  · simp [pSeq, pOk, pNo, h1, skN, aSk, aRole, aNew, aRng, aPig, Nat.add_assoc] at h
theorem rng_lt {x : Int32} {n m : Nat} (h1 : x ≤ nI n - nI 1) (h2 : x = nI m) (hm : m < 1000000) (hn : n ≤ 16) : m < n := by
  subst h2
  cases n with
  | zero =>
    have : nI 0 - nI 1 < nI m := Int32.lt_of_lt_of_le (show nI 0 - nI 1 < 0 by decide) (nI_pos' (by omega))
    exact absurd h1 (Int32.not_le.mpr this)
  | succ n =>
    rw [nIp] at h1
    have := (nI_leI (a := m) (b := n) (by omega) (by omega)).mp h1
    omega
theorem Ln_pig {c : Cx} (hc : xok c) : LnG c (pPig (xkd c)) := by
  intro i hok
  obtain ⟨k1, k3, k5, et⟩ := pPig_ok hok
  rw [et]
  intro st pp S hG hE ha
  have hE : i + 6 ≤ xE c := hE
  have ha : xzf c i = 0 ∧ xzf c (i + 1) = 1 ∧ xzf c (i + 2) = 0 ∧ xzf c (i + 3) = 6 ∧ xzf c (i + 4) = 0 ∧ xzf c (i + 5) = 7 ∧ True := ha
  obtain ⟨z0, z1, z2, z3, z4, z5, _⟩ := ha
  obtain ⟨g1, g2, g3, g4⟩ := hG
  have hF : (ruS c S (tPig i)).2.1 = runR (xnum c) S.2.1 (tPig i) := ruS_F _ _ _
  obtain ⟨C, F, e, b, R⟩ := S
  have hsk := g_sk g1 z0
  obtain ⟨gA1, gT1, gP1, gN1, gS1, e1, b1⟩ := g1
  have e1 : e = nI 0 := e1
  have b1 : b = 0 := b1
  subst e1 b1
  obtain ⟨hA2, hT2, hP2, hN2, hS2, _, _⟩ := hsk.1
  have hA2 : gA c (i + 1) (cSk C) (uSk R) := hA2
  have hN2 : gN c (i + 1) pp (cSk C) := hN2
  have hp8 : rPg (uSk R) = cPc (cSk C) ∧ cPc (cSk C) ≤ 8 := ⟨gP1.1, gP1.2.1⟩
  have sk : ∀ (C : RS) (F R : MR), ruS c (C, F, nI 0, 0, R) [aSk] = (cSk C, uSk F, nI 0, 0, uSk R) := fun _ _ _ => rfl
  show (∃ pp', LR c (i + 6) (st ++ stT (tPig i)) pp' (ruS c (C, F, nI 0, 0, R) (tPig i)) ∧ _) ∨ _
  unfold tPig at hF ⊢
  rw [ruS_app, sk] at hF ⊢
  rw [ruS_app] at hF ⊢
  rcases x_new (F := uSk F) hc hA2 hp8 hN2 k1 (by omega) z1 with ⟨q1, q2, q3⟩ | q1
  · rw [q1] at hF ⊢
    rw [ruS_app, sk] at hF ⊢
    rw [ruS_app] at hF ⊢
    have hA3 : gA c (i + 3) (cSk (cSk (cSet (xv c (i + 1)) (cSk C)))) (uSk (uSk (uPig (xnum c (i + 1 + 2)) (xnum c (i + 1 + 4)) (uSk R)))) := gA_sk (gA_sk (C := cSet (xv c (i + 1)) (cSk C)) (R := uPig (xnum c (i + 1 + 2)) (xnum c (i + 1 + 4)) (uSk R)) hA2)
    rcases e_rng (z := 6) (F := uSk (uSk (uRole 1 (uSk F)))) (hi := nI (cTc C) - nI 1) (lo := 0) hc hA3 (by omega) k3 (.inl ⟨rfl, rfl, rfl, gT1.1⟩) with ⟨r1, r2, r3⟩ | r1
    · rw [show aRng 0 = aRng (6 - 6) from rfl, r1] at hF ⊢
      rw [ruS_app, sk] at hF ⊢
      rw [ruS_app] at hF ⊢
      have hA5 : gA c (i + 5) _ _ := gA_sk (gA_sk hA3)
      rcases e_rng (z := 7) (F := uSk (uSk (uRole 6 (uSk (uSk (uRole 1 (uSk F))))))) (hi := nI 9) (lo := 1) hc hA5 (by omega) k5 (.inr ⟨rfl, rfl, rfl⟩) with ⟨s1, s2, s3⟩ | s1
      · rw [show aRng 1 = aRng (7 - 6) from rfl, s1] at hF ⊢
        have q2 : cPc C < 8 := q2
        obtain ⟨n1, n2, n3, n4, n5⟩ := gN1
        have n1 : pp.length = cPc C := n1
        obtain ⟨⟨u1, m1, u2, u3⟩, u4⟩ := And.intro (hc.1 _ (by omega) k3) (hc.1 _ (by omega) k5).1
        have r3 : xnum c (i + 3) ≤ nI (cTc C) - nI 1 := r3
        have hlt := rng_lt r3 u3 u2 gT1.2.1
        generalize hC6 : cSk (cSk (cSk (cSk (cSk (cSet (xv c (i + 1)) (cSk C)))))) = C6 at *
        generalize hR6 : uSk (uSk (uSk (uSk (uSk (uPig (xnum c (i + 1 + 2)) (xnum c (i + 1 + 4)) (uSk R)))))) = R6 at *
        have hpc : cPc C6 = cPc C := by rw [← hC6]; rfl
        have hns : cNs C6 = va_up (cNs C) (cPc C) (xv c (i + 1)) := by rw [← hC6]; rfl
        have ea : ∀ F : MR, ruS c (C6, F, nI 0, 0, R6) [aPig (i + 3) (i + 5)] = (((cAt C6, cM1 C6, cM2 C6), (cEr C6, cEt C6, cTc C6, cPc C6 + 1), (cOc C6, cSc C6, cHs C6, va_up (cPs C6) (cPc C6) (xv c (i + 3)).toInt32), (va_up (cLs C6) (cPc C6) (xv c (i + 5)).toInt32, cOd C6, cKf C6), (cFa C6, cSa C6, cNs C6)), F, nI 0, 0, R6) := fun F => by
          show (cPig (xv c) (i + 3) (i + 5) C6, F, nI 0, 0, R6) = _
          unfold cPig cAddP
          rw [if_pos (by omega)]
        rw [ea] at hF ⊢
        have hF : uSk (uRole 7 (uSk (uSk (uRole 6 (uSk (uSk (uRole 1 (uSk F)))))))) = _ := hF
        refine .inl ⟨pp ++ [i + 1], ⟨⟨?_, ?_, ?_, ?_, ?_, rfl, rfl⟩, ?_, ?_, ?_⟩, ?_⟩
        · exact ⟨by rw [← hC6]; exact gA1.1, by rw [← hC6]; show cAt C + 1 + 1 + 1 + 1 + 1 + 1 = _; rw [show cAt C = i from gA1.2.1], by rw [← hR6]; show rTk R + 1 + 1 + 1 + 1 + 1 + 1 = _; rw [show rTk R = i from gA1.2.2.1], by rw [← hR6]; exact gA1.2.2.2⟩
        · rw [← hC6, ← hR6]
          exact gT1
        · obtain ⟨p1, p2, p3⟩ := gP1
          refine ⟨?_, ?_, fun k hk => ?_⟩
          · show rPg R6 = cPc C6 + 1
            rw [hpc, ← hR6]
            show rPg R + 1 = _
            rw [show rPg R = cPc C from p1]
          · show cPc C6 + 1 ≤ 8
            omega
          · have hk : k < cPc C6 + 1 := hk
            show rAt R6 k = va_up (cPs C6) (cPc C6) (xv c (i + 3)).toInt32 k ∧ rLo R6 k = va_up (cLs C6) (cPc C6) (xv c (i + 5)).toInt32 k ∧ ∃ p, p < cTc C6 ∧ va_up (cPs C6) (cPc C6) (xv c (i + 3)).toInt32 k = nI p
            have x1 : rAt R6 = va_up (rAt R) (rPg R) (xnum c (i + 3)) := by rw [← hR6]; rfl
            have x2 : rLo R6 = va_up (rLo R) (rPg R) (xnum c (i + 5)) := by rw [← hR6]; rfl
            have x3 : cPs C6 = cPs C := by rw [← hC6]; rfl
            have x4 : cLs C6 = cLs C := by rw [← hC6]; rfl
            have x5 : cTc C6 = cTc C := by rw [← hC6]; rfl
            rw [x1, x2, x3, x4, x5, hpc, show rPg R = cPc C from p1, u1, u4]
            by_cases q : k = cPc C
            · subst q
              rw [va_up_self, va_up_self, va_up_self, va_up_self]
              exact ⟨rfl, rfl, m1, hlt, u3⟩
            · rw [va_up_ne _ _ q, va_up_ne _ _ q, va_up_ne _ _ q, va_up_ne _ _ q]
              exact p3 k (by show k < cPc C; omega)
        · have hl : (pp ++ [i + 1]).length = cPc C + 1 := by rw [List.length_append, n1]; rfl
          refine ⟨?_, fun k h => ?_, ?_, fun j h1 h2 => ?_, fun j k h1 h2 h3 => ?_⟩
          · show _ = cPc C6 + 1
            rw [hl, hpc]
          · show _ ∧ _ ∧ _ ∧ cNs C6 k = _
            rw [hns]
            by_cases q : k < pp.length
            · rw [List.getElem_append_left q, va_up_ne _ _ (by omega)]
              obtain ⟨y1, y2⟩ := n2 k q
              exact ⟨by omega, y2⟩
            · have hk : k = pp.length := by omega
              subst hk
              rw [List.getElem_append_right (Nat.le_refl _)]
              simp only [Nat.sub_self, List.getElem_cons_zero]
              exact ⟨by omega, k1, z1, by rw [n1, va_up_self]⟩
          · rw [List.pairwise_append]
            refine ⟨n3, List.pairwise_singleton .., fun a ha b hb => ?_⟩
            rw [List.mem_singleton] at hb
            obtain ⟨k, hk, e⟩ := List.getElem_of_mem ha
            have := (n2 k hk).1
            omega
          · rw [List.mem_append, List.mem_singleton]
            by_cases q : j = i + 1
            · exact .inr q
            · by_cases q2 : j < i
              · exact .inl (n4 j q2 h2)
              · have : j = i ∨ j = i + 2 ∨ j = i + 3 ∨ j = i + 4 ∨ j = i + 5 := by omega
                rcases this with r | r | r | r | r <;> subst r <;> omega
          · have h1 : j < cPc C6 + 1 := h1
            have h2 : k < cPc C6 + 1 := h2
            have h3 : cNs C6 j = cNs C6 k := h3
            rw [hns] at h3
            by_cases qj : j = cPc C
            · by_cases qk : k = cPc C
              · omega
              · rw [qj, va_up_self, va_up_ne _ _ qk] at h3
                exact absurd h3.symm (q3 k (by show k < cPc C; omega))
            · by_cases qk : k = cPc C
              · rw [qk, va_up_self, va_up_ne _ _ qj] at h3
                exact absurd h3 (q3 j (by show j < cPc C; omega))
              · rw [va_up_ne _ _ qj, va_up_ne _ _ qk] at h3
                exact n5 j k (by show j < cPc C; omega) (by show k < cPc C; omega) h3
        · show gS c (i + 6) (st ++ []) _ R6
          rw [List.append_nil]
          refine gS_cg gS1 (by omega) ?_ (by show cPc C ≤ cPc C6 + 1; omega) (fun l hl => by rw [← hR6]; rfl)
          rw [← hC6]
          exact ⟨rfl, rfl, rfl, rfl⟩
        · obtain ⟨o1, o2, o3, o4⟩ := g2
          refine ⟨?_, ?_, ?_, fun k hk => ?_⟩
          · rw [← hC6, ← hR6]
            exact o1
          · rw [← hC6]
            exact o2
          · rw [← hC6]
            exact o3
          · have hk : k < cOc C := by rw [← hC6] at hk; exact hk
            refine gOk_cg (o4 k hk) (by show cPc C ≤ cPc C6 + 1; omega) ?_ ?_ ?_ rfl rfl rfl rfl
            · rw [← hC6]
              rfl
            · rw [← hR6]
              rfl
            · rw [← hR6]
              rfl
        · show FC c (encA (st ++ [])) _
          rw [List.append_nil]
          have := FC_run c (tPig i) _ i _ g3 g4
          rw [show wdT i (tPig i) = [] from rfl, List.append_nil] at this
          exact this
        · show rTk F + 1 + 1 + 1 + 1 + 1 + 1 = _
          rw [show rTk F = i from g4]
        · rw [← hC6]
          rfl
      · exact .inr (Er_run s1 _)
    · exact .inr (Er_run r1 _)
  · exact .inr (Er_run q1 _)
