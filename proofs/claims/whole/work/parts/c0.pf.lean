/-! ===== the plan that both have read ===== -/
def sameOrd (R R' : MR) : Prop := rRi R' = rRi R ∧ rSu R' = rSu R ∧ rTe R' = rTe R ∧ rTn R' = rTn R
theorem so_eO {tb : Nat → Int32} {fi li : Nat → Nat} {kf : Nat → Int32} {z i : Nat} {R : MR} : sameOrd R (eO tb fi li kf z i R).2 := by
  unfold eO
  split
  · exact ⟨rfl, rfl, rfl, rfl⟩
  · split
    · split
      · split <;> exact ⟨rfl, rfl, rfl, rfl⟩
      · exact ⟨rfl, rfl, rfl, rfl⟩
    · split
      · split <;> exact ⟨rfl, rfl, rfl, rfl⟩
      · split
        · exact ⟨rfl, rfl, rfl, rfl⟩
        · split
          · exact ⟨rfl, rfl, rfl, rfl⟩
          · split
            · split <;> exact ⟨rfl, rfl, rfl, rfl⟩
            · split <;> exact ⟨rfl, rfl, rfl, rfl⟩
theorem so_erL {tb : Nat → Int32} {fi li : Nat → Nat} {kf : Nat → Int32} {zf : Nat → Nat} : ∀ (m : Nat) (R : MR), sameOrd R (erL tb fi li kf zf m R).2
  | 0, R => ⟨rfl, rfl, rfl, rfl⟩
  | m + 1, R => by
    rw [erL]
    split
    · obtain ⟨h1, h2, h3, h4⟩ := so_erL (tb := tb) (fi := fi) (li := li) (kf := kf) (zf := zf) m (uSk (eO tb fi li kf (zf (rTk R)) (rTk R) R).2)
      obtain ⟨k1, k2, k3, k4⟩ := so_eO (tb := tb) (fi := fi) (li := li) (kf := kf) (z := zf (rTk R)) (i := rTk R) (R := R)
      exact ⟨h1.trans k1, h2.trans k2, h3.trans k3, h4.trans k4⟩
    · exact so_eO
def odC (C : RS) (k : Nat) : Nat × Nat × Int32 × Nat × Nat × Nat := ((cOd C k).1, (cOd C k).2.1.toNatClampNeg, (cOd C k).2.2.1, (cOd C k).2.2.2.1.toNatClampNeg, (cOd C k).2.2.2.2.1.toNatClampNeg, (cOd C k).2.2.2.2.2.toNatClampNeg)
def plN (C : RS) (k : Nat) : Nat := (cPs C k).toNatClampNeg
/-- a plan that the class's record C and the reference's record R both tell -/
def bothP (T : Nat) (K A B pos : Nat → Nat) (C : RS) (R : MR) : Prop := (1 ≤ cTc C ∧ cTc C ≤ 16 ∧ cPc C ≤ 8 ∧ cOc C ≤ 16 ∧ T ≤ 400 ∧ pos T ≤ 800 ∧ cSc C = T) ∧ (rTw R = cTc C ∧ rPg R = cPc C ∧ rOd R = cOc C) ∧ (∀ k, k < cTc C → rHe R k = cHs C k ∧ ∃ x, x ≤ 20 ∧ cHs C k = nI x) ∧ (∀ k, k < cPc C → rAt R k = cPs C k ∧ rLo R k = cLs C k ∧ cPs C k = nI (plN C k) ∧ plN C k < cTc C) ∧ (∀ i, i < T → cKf C i = some (K i) ∧ cFa C i = nI (A i) ∧ cSa C i = nI (B i)) ∧ rcode (rCo R) K A B pos T ∧ ∀ k, k < cOc C → cOd C k = ((odC C k).1, nI (odC C k).2.1, (odC C k).2.2.1, nI (odC C k).2.2.2.1, nI (odC C k).2.2.2.2.1, nI (odC C k).2.2.2.2.2) ∧ ordW1 (cPc C) K A B (odC C k) ∧ (odC C k).2.2.2.2.2 ≤ T ∧ rDo R k = nI (odC C k).1 ∧ ((odC C k).1 = 4 ∨ (odC C k).1 = 5 → rTo R k = nI (odC C k).2.1 ∧ rRi R k = (odC C k).2.2.1) ∧ rSu R k = nI (pos (odC C k).2.2.2.1) ∧ rTe R k = nI (pos (odC C k).2.2.2.2.1) ∧ rTn R k = nI (pos (odC C k).2.2.2.2.2)
theorem enc_b {x : Nat} {y : Nat × Nat × Nat} (h : (2, x) ∈ encS y) : ((y.1 = 16 ∨ y.1 = 17 ∨ y.1 = 19 ∨ y.1 = 21) ∧ x = y.2.1) ∨ ((y.1 = 19 ∨ y.1 = 21) ∧ x = y.2.2) := by
  unfold encS at h
  split at h
  · simp only [List.mem_cons, Prod.mk.injEq, List.not_mem_nil, or_false] at h
    omega
  · split at h
    · simp only [List.mem_cons, Prod.mk.injEq, List.not_mem_nil, or_false] at h
      omega
    · split at h
      · simp only [List.mem_cons, Prod.mk.injEq, List.not_mem_nil, or_false] at h
        omega
      · simp only [List.mem_cons, Prod.mk.injEq, List.not_mem_nil, or_false] at h
        omega
theorem plan_ok {tb : Nat → Int32} {L : Nat} {kf ro me : Nat → Int32} {vs : Nat → Int64} {C0 : RS} {pp : List Nat} (h : LR (cxB tb L kf vs) (skN (trB (bM tb L) L)) (stT (trB (bM tb L) L)) pp ((runC (vsT (bM tb L) L (ntT (bM tb L) L + 1) vs) C0 (trB (bM tb L) L)), R1B tb (bM tb L) L (zeT (ntT (bM tb L) L + 1) ro) (zeT (ntT (bM tb L) L + 1) me), (P2B tb (bM tb L) L (kfT (bM tb L) L (ntT (bM tb L) L + 1) kf) (zeT (ntT (bM tb L) L + 1) ro) (zeT (ntT (bM tb L) L + 1) me)).1, 0, (P2B tb (bM tb L) L (kfT (bM tb L) L (ntT (bM tb L) L + 1) kf) (zeT (ntT (bM tb L) L + 1) ro) (zeT (ntT (bM tb L) L + 1) me)).2)) (h1 : 1 ≤ cTc (runC (vsT (bM tb L) L (ntT (bM tb L) L + 1) vs) C0 (trB (bM tb L) L))) : bothP (stT (trB (bM tb L) L)).length (stK (stT (trB (bM tb L) L))) (stA (cxB tb L kf vs) (P2B tb (bM tb L) L (kfT (bM tb L) L (ntT (bM tb L) L + 1) kf) (zeT (ntT (bM tb L) L + 1) ro) (zeT (ntT (bM tb L) L + 1) me)).2 (stT (trB (bM tb L) L))) (stB (P2B tb (bM tb L) L (kfT (bM tb L) L (ntT (bM tb L) L + 1) kf) (zeT (ntT (bM tb L) L + 1) ro) (zeT (ntT (bM tb L) L + 1) me)).2 (stT (trB (bM tb L) L))) (stP (stT (trB (bM tb L) L))) (runC (vsT (bM tb L) L (ntT (bM tb L) L + 1) vs) C0 (trB (bM tb L) L)) (opN (oF (P2B tb (bM tb L) L (kfT (bM tb L) L (ntT (bM tb L) L + 1) kf) (zeT (ntT (bM tb L) L + 1) ro) (zeT (ntT (bM tb L) L + 1) me)).2) (cF (P2B tb (bM tb L) L (kfT (bM tb L) L (ntT (bM tb L) L + 1) kf) (zeT (ntT (bM tb L) L + 1) ro) (zeT (ntT (bM tb L) L + 1) me)).2) (rOp (P2B tb (bM tb L) L (kfT (bM tb L) L (ntT (bM tb L) L + 1) kf) (zeT (ntT (bM tb L) L + 1) ro) (zeT (ntT (bM tb L) L + 1) me)).2) 0 (P2B tb (bM tb L) L (kfT (bM tb L) L (ntT (bM tb L) L + 1) kf) (zeT (ntT (bM tb L) L + 1) ro) (zeT (ntT (bM tb L) L + 1) me)).2) := by
  obtain ⟨n1, n2, n3⟩ := ntT_ok (bM tb L) L
  have hle := trB_le (bM tb L) L
  obtain ⟨s1, s2, s3, s4, s5⟩ : sameCode (uTk 0 (R1B tb (bM tb L) L (zeT (ntT (bM tb L) L + 1) ro) (zeT (ntT (bM tb L) L + 1) me))) (P2B tb (bM tb L) L (kfT (bM tb L) L (ntT (bM tb L) L + 1) kf) (zeT (ntT (bM tb L) L + 1) ro) (zeT (ntT (bM tb L) L + 1) me)).2 := sc_erL _ _
  obtain ⟨u1, u2, u3, u4⟩ : sameOrd (uTk 0 (R1B tb (bM tb L) L (zeT (ntT (bM tb L) L + 1) ro) (zeT (ntT (bM tb L) L + 1) me))) (P2B tb (bM tb L) L (kfT (bM tb L) L (ntT (bM tb L) L + 1) kf) (zeT (ntT (bM tb L) L + 1) ro) (zeT (ntT (bM tb L) L + 1) me)).2 := so_erL _ _
  obtain ⟨z1, z2⟩ := sz_run (nmB tb (bM tb L) L) n1 n2 (trB (bM tb L) L) 0 0 0 0 (rsR (zeT (ntT (bM tb L) L + 1) ro) (zeT (ntT (bM tb L) L + 1) me)) G_book (by omega) rfl rfl rfl (by omega) (by omega)
  obtain ⟨o, cc, hon⟩ := on_run (nmB tb (bM tb L) L) (trB (bM tb L) L) (rsR (zeT (ntT (bM tb L) L + 1) ro) (zeT (ntT (bM tb L) L + 1) me)) (fun _ => 0) (fun _ => 0) ⟨fun k hk => absurd (show k < 0 from hk) (by omega), fun j k _ hk => absurd (show k < 0 from hk) (by omega)⟩
  have hT4 : (stT (trB (bM tb L) L)).length ≤ 400 := by
    have := ag_len _ _ _ _ _ (ag_B tb L) (Nat.zero_le _)
    omega
  obtain ⟨⟨hA, ⟨hT1, hT2, hT3⟩, ⟨hP1, hP2, hP3⟩, hN, ⟨hS1, hS2⟩, _, _⟩, ⟨hO1, hO2, hO3, hO4⟩, hF, _⟩ := h
  have hP2 : cPc (runC (vsT (bM tb L) L (ntT (bM tb L) L + 1) vs) C0 (trB (bM tb L) L)) ≤ 8 := hP2
  have hsk : ∀ j (h : j < (stT (trB (bM tb L) L)).length), sOk (cxB tb L kf vs) (P2B tb (bM tb L) L (kfT (bM tb L) L (ntT (bM tb L) L + 1) kf) (zeT (ntT (bM tb L) L + 1) ro) (zeT (ntT (bM tb L) L + 1) me)).2 (cPc (runC (vsT (bM tb L) L (ntT (bM tb L) L + 1) vs) C0 (trB (bM tb L) L))) (skN (trB (bM tb L) L)) (stT (trB (bM tb L) L))[j] := fun j h => (hS2 j h).2.2.2
  have hF : FC (cxB tb L kf vs) (encA (stT (trB (bM tb L) L))) (R1B tb (bM tb L) L (zeT (ntT (bM tb L) L + 1) ro) (zeT (ntT (bM tb L) L + 1) me)) := hF
  have h8 : (encA (stT (trB (bM tb L) L))).length ≤ 800 := by
    rw [← hF.1]
    exact z1
  have hco := co_fin hF (R := (P2B tb (bM tb L) L (kfT (bM tb L) L (ntT (bM tb L) L + 1) kf) (zeT (ntT (bM tb L) L + 1) ro) (zeT (ntT (bM tb L) L + 1) me)).2) ⟨s1, s2, s3⟩ h8 (fun j x hj => by
    obtain ⟨y, hy, hx⟩ := List.mem_flatMap.mp (List.mem_of_getElem? hj)
    obtain ⟨k, hk, e⟩ := List.getElem_of_mem hy
    have h5 := hsk k hk
    rw [e] at h5
    rcases enc_b hx with ⟨q1, q2⟩ | ⟨q1, q2⟩
    · have := (h5.2.1 q1).1
      omega
    · have := (h5.2.2 q1).1
      omega) hon
  obtain ⟨⟨f1, f2⟩, ⟨f3, f4, f5⟩, ⟨f6, f7, f8, f9, f10⟩, ⟨f11, f12, f13, f14⟩⟩ := op_f (oF (P2B tb (bM tb L) L (kfT (bM tb L) L (ntT (bM tb L) L + 1) kf) (zeT (ntT (bM tb L) L + 1) ro) (zeT (ntT (bM tb L) L + 1) me)).2) (cF (P2B tb (bM tb L) L (kfT (bM tb L) L (ntT (bM tb L) L + 1) kf) (zeT (ntT (bM tb L) L + 1) ro) (zeT (ntT (bM tb L) L + 1) me)).2) (rOp (P2B tb (bM tb L) L (kfT (bM tb L) L (ntT (bM tb L) L + 1) kf) (zeT (ntT (bM tb L) L + 1) ro) (zeT (ntT (bM tb L) L + 1) me)).2) 0 (P2B tb (bM tb L) L (kfT (bM tb L) L (ntT (bM tb L) L + 1) kf) (zeT (ntT (bM tb L) L + 1) ro) (zeT (ntT (bM tb L) L + 1) me)).2
  refine ⟨⟨h1, hT2, hP2, hO2, hT4, by rw [stP_len]; exact h8, hS1⟩, ⟨f3.trans hT1, f4.trans hP1, f5.trans hO1⟩, fun k hk => by rw [f6]; exact hT3 k hk, fun k hk => ?_, fun i hi => ?_, code_rc hco hsk hP2, fun k hk => ?_⟩
  · obtain ⟨y1, y2, p, y3, y4⟩ := hP3 k hk
    have hT2 : cTc (runC (vsT (bM tb L) L (ntT (bM tb L) L + 1) vs) C0 (trB (bM tb L) L)) ≤ 16 := hT2
    have y3 : p < cTc (runC (vsT (bM tb L) L (ntT (bM tb L) L + 1) vs) C0 (trB (bM tb L) L)) := y3
    have y4 : cPs (runC (vsT (bM tb L) L (ntT (bM tb L) L + 1) vs) C0 (trB (bM tb L) L)) k = nI p := y4
    have e : plN (runC (vsT (bM tb L) L (ntT (bM tb L) L + 1) vs) C0 (trB (bM tb L) L)) k = p := by
      unfold plN
      rw [y4]
      exact nI_clamp (by omega)
    rw [f7, f8, e]
    exact ⟨y1, y2, y4, y3⟩
  · obtain ⟨y1, y2, y3, y4⟩ := hS2 i hi
    obtain ⟨w1, w2, _, _⟩ := st_nI hi (hsk i hi) hP2
    refine ⟨y1.trans ?_, y2.trans w1, y3.trans w2⟩
    unfold stK
    rw [atS_e hi]
  · obtain ⟨kd, q, f, t, e, bb, y1, y2, ⟨y3, y4, y5⟩, y6, y7, y8, y9, y10, y11⟩ := hO4 k hk
    have y1 : cOd (runC (vsT (bM tb L) L (ntT (bM tb L) L + 1) vs) C0 (trB (bM tb L) L)) k = (kd, nI q, bb, nI f, nI t, nI e) := y1
    have hq : q < 2 ^ 31 := by
      rcases y6 with ⟨_, z, _⟩ | ⟨_, z, _⟩
      · have z : q < cPc (runC (vsT (bM tb L) L (ntT (bM tb L) L + 1) vs) C0 (trB (bM tb L) L)) := z
        omega
      · omega
    have ex : odC (runC (vsT (bM tb L) L (ntT (bM tb L) L + 1) vs) C0 (trB (bM tb L) L)) k = (kd, q, bb, f, t, e) := by
      unfold odC
      rw [y1]
      show (kd, (nI q).toNatClampNeg, bb, (nI f).toNatClampNeg, (nI t).toNatClampNeg, (nI e).toNatClampNeg) = _
      rw [nI_clamp hq, nI_clamp (by omega), nI_clamp (by omega), nI_clamp (by omega)]
    rw [ex, f9, f10, f11, f12, f13, f14]
    refine ⟨y1, ⟨y2, ?_, y3, y4, Nat.le_trans y5 hT4, fun hlt => ty_M hsk hP2 _ _ _ _ (by show t + (e - t) ≤ _; omega) (y7 hlt)⟩, y5, y8, fun hm => ?_, ?_, ?_, ?_⟩
    · rcases y6 with ⟨w1, w2, _, _⟩ | ⟨w1, _, w2⟩
      · exact .inl ⟨w1, w2⟩
      · exact .inr ⟨w1, ty_M hsk hP2 _ _ _ _ (by show f + (t - f) ≤ _; omega) w2⟩
    · have hm : kd = 4 ∨ kd = 5 := hm
      rcases y6 with ⟨w1, w2, w3, w4⟩ | ⟨w1, _⟩
      · exact ⟨w3, by rw [u1]; exact w4⟩
      · omega
    · rw [u2]
      exact y9
    · rw [u3]
      exact y10
    · rw [u4]
      exact y11
