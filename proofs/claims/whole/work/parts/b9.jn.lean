/-! ===== both readers agree ===== -/
def cxB (tb : Nat → Int32) (L : Nat) (kf : Nat → Int32) (vs : Nat → Int64) : Cx := ((kdT (bM tb L) L, zfB (bM tb L) L), (vsT (bM tb L) L (ntT (bM tb L) L + 1) vs), tb, (frT (bM tb L) L, liT (bM tb L) L), (kfT (bM tb L) L (ntT (bM tb L) L + 1) kf), skN (trB (bM tb L) L))
theorem cx_ok (tb : Nat → Int32) (L : Nat) (kf : Nat → Int32) (vs : Nat → Int64) : xok (cxB tb L kf vs) := by
  have hle := trB_le (bM tb L) L
  have hv : ∀ i, i < skN (trB (bM tb L) L) → (vsT (bM tb L) L (ntT (bM tb L) L + 1) vs) i = vaT (bM tb L) L i := fun i hi => upto_lt _ _ (by omega)
  refine ⟨fun i hi h => ?_, fun i j hi hj h h' => ?_, fun i hi h => ?_⟩
  · show ((vsT (bM tb L) L (ntT (bM tb L) L + 1) vs) i).toInt32 = _ ∧ _
    rw [hv i hi]
    exact num_v h
  · show _ ↔ ¬ (vsT (bM tb L) L (ntT (bM tb L) L + 1) vs) i = (vsT (bM tb L) L (ntT (bM tb L) L + 1) vs) j
    rw [hv i hi, hv j hj]
    exact nam_v h h'
  have hi : i < skN (trB (bM tb L) L) := hi
  have e : (kfT (bM tb L) L (ntT (bM tb L) L + 1) kf) i = nI (kR (kdT (bM tb L) L i)) := upto_lt _ _ (by omega)
  have e' : xkf (cxB tb L kf vs) i = nI (kR (kdT (bM tb L) L i)) := e
  rw [e']
  show nI (kR (xkd (cxB tb L kf vs) i)) = _
  unfold kR
  rw [if_pos (by omega)]
theorem ag_len (zf : Nat → Nat) : ∀ (t : List PA) (i b s : Nat), ag zf i b s t → s ≤ 400 → s + (stT t).length ≤ 400
  | [], _, _, s, _, h => h
  | a :: t, i, b, s, h, hs => by
    rw [ag] at h
    rw [stT]
    by_cases p1 : a.1 = 1
    · rw [if_pos p1] at h
      rw [if_neg (by omega)]
      exact ag_len zf t _ _ _ h hs
    · rw [if_neg p1] at h
      by_cases p0 : a.1 = 0
      · rw [if_pos p0] at h
        rw [if_neg (by omega)]
        exact ag_len zf t _ _ _ h.2 hs
      · rw [if_neg p0] at h
        by_cases p5 : a.1 = 5
        · rw [if_pos p5] at h
          rw [if_pos p5, List.length_cons]
          have := ag_len zf t _ _ _ h.2 (by omega)
          omega
        · rw [if_neg p5] at h
          rw [if_neg p5]
          exact ag_len zf t _ _ _ h hs
theorem wd_b : ∀ (t : List PA) (i : Nat) (w : Nat × Nat), w ∈ wdT i t → w.1 = 2 → w.2 ≤ i + skN t
  | [], _, _, h, _ => absurd h List.not_mem_nil
  | a :: t, i, w, h, h2 => by
    rw [wdT] at h
    rw [skN]
    by_cases q2 : a.1 = 2
    · rw [if_pos q2] at h
      rcases List.mem_cons.mp h with r | r
      · rw [r] at h2
        exact absurd h2 (by show ¬ 0 = 2; decide)
      · have := wd_b t i w r h2
        omega
    · rw [if_neg q2] at h
      by_cases q3 : a.1 = 3
      · rw [if_pos q3] at h
        rcases List.mem_cons.mp h with r | r
        · rw [r] at h2
          exact absurd h2 (by show ¬ 1 = 2; decide)
        · have := wd_b t i w r h2
          omega
      · rw [if_neg q3] at h
        by_cases q4 : a.1 = 4
        · rw [if_pos q4] at h
          rcases List.mem_cons.mp h with r | r
          · rw [r]
            show i ≤ _
            omega
          · have := wd_b t i w r h2
            omega
        · rw [if_neg q4] at h
          by_cases q0 : a.1 = 0
          · rw [if_pos q0] at h ⊢
            have := wd_b t (i + 1) w h h2
            omega
          · rw [if_neg q0] at h ⊢
            have := wd_b t i w h h2
            omega
def agB (tb : Nat → Int32) (L : Nat) : Prop := ag (zfB (bM tb L) L) 0 0 0 (trB (bM tb L) L)
theorem ag_B (tb : Nat → Int32) (L : Nat) : agB tb L := by
  obtain ⟨n1, n2, n3⟩ := ntT_ok (bM tb L) L
  have hle := trB_le (bM tb L) L
  exact ag_of n1 n2 _ (trB (bM tb L) L) 0 0 0 0 0 (fun p _ _ => rfl) G_book (by omega)
theorem both {tb : Nat → Int32} {L : Nat} {kf ro me : Nat → Int32} {vs : Nat → Int64} {C0 : RS} (hok : okB (bM tb L) L = true) (h0 : cEr C0 = 0 ∧ cAt C0 = 0 ∧ cTc C0 = 0 ∧ cPc C0 = 0 ∧ cOc C0 = 0 ∧ cSc C0 = 0) : (∃ pp, LR (cxB tb L kf vs) (skN (trB (bM tb L) L)) (stT (trB (bM tb L) L)) pp ((runC (vsT (bM tb L) L (ntT (bM tb L) L + 1) vs) C0 (trB (bM tb L) L)), R1B tb (bM tb L) L (zeT (ntT (bM tb L) L + 1) ro) (zeT (ntT (bM tb L) L + 1) me), (P2B tb (bM tb L) L (kfT (bM tb L) L (ntT (bM tb L) L + 1) kf) (zeT (ntT (bM tb L) L + 1) ro) (zeT (ntT (bM tb L) L + 1) me)).1, 0, (P2B tb (bM tb L) L (kfT (bM tb L) L (ntT (bM tb L) L + 1) kf) (zeT (ntT (bM tb L) L + 1) ro) (zeT (ntT (bM tb L) L + 1) me)).2) ∧ 1 ≤ cTc (runC (vsT (bM tb L) L (ntT (bM tb L) L + 1) vs) C0 (trB (bM tb L) L))) ∨ (¬ cEr (runC (vsT (bM tb L) L (ntT (bM tb L) L + 1) vs) C0 (trB (bM tb L) L)) = 0 ∧ cEr (runC (vsT (bM tb L) L (ntT (bM tb L) L + 1) vs) C0 (trB (bM tb L) L)) ≤ 5 ∧ (P2B tb (bM tb L) L (kfT (bM tb L) L (ntT (bM tb L) L + 1) kf) (zeT (ntT (bM tb L) L + 1) ro) (zeT (ntT (bM tb L) L + 1) me)).1 = nI (cEr (runC (vsT (bM tb L) L (ntT (bM tb L) L + 1) vs) C0 (trB (bM tb L) L))) ∧ rTk (P2B tb (bM tb L) L (kfT (bM tb L) L (ntT (bM tb L) L + 1) kf) (zeT (ntT (bM tb L) L + 1) ro) (zeT (ntT (bM tb L) L + 1) me)).2 = cEt (runC (vsT (bM tb L) L (ntT (bM tb L) L + 1) vs) C0 (trB (bM tb L) L))) := by
  obtain ⟨c1, c2, c3, c4, c5, c6⟩ := h0
  obtain ⟨n1, n2, n3⟩ := ntT_ok (bM tb L) L
  have hle := trB_le (bM tb L) L
  obtain ⟨t1, t2, t3⟩ : tnR (rsR (zeT (ntT (bM tb L) L + 1) ro) (zeT (ntT (bM tb L) L + 1) me)) (R1B tb (bM tb L) L (zeT (ntT (bM tb L) L + 1) ro) (zeT (ntT (bM tb L) L + 1) me)) := tn_run (nmB tb (bM tb L) L) (trB (bM tb L) L) (rsR (zeT (ntT (bM tb L) L + 1) ro) (zeT (ntT (bM tb L) L + 1) me))
  have hz := ag_B tb L
  obtain ⟨qq, hev⟩ := E_book (kd := kdT (bM tb L) L) hok
  have hz7 := zfT_ok (trB (bM tb L) L) 0 0 0 qq 0 hev (by omega) (by omega) (by omega)
  have hro : ∀ p, p < skN (trB (bM tb L) L) → rRo (R1B tb (bM tb L) L (zeT (ntT (bM tb L) L + 1) ro) (zeT (ntT (bM tb L) L + 1) me)) p = nI (zfB (bM tb L) L p) := by
    intro p hp
    refine (zfT_ro (nmB tb (bM tb L) L) (trB (bM tb L) L) 0 0 (rsR (zeT (ntT (bM tb L) L + 1) ro) (zeT (ntT (bM tb L) L + 1) me)) rfl (fun q _ h3 => ?_)).2 p (Nat.zero_le _) (by omega)
    show zeT (ntT (bM tb L) L + 1) ro q = _
    refine (upto_lt _ _ (by omega)).trans ?_
    split <;> rfl
  have hL : LR (cxB tb L kf vs) 0 [] [] (C0, rsR (zeT (ntT (bM tb L) L + 1) ro) (zeT (ntT (bM tb L) L + 1) me), nI 0, 0, uTk 0 (R1B tb (bM tb L) L (zeT (ntT (bM tb L) L + 1) ro) (zeT (ntT (bM tb L) L + 1) me))) := by
    refine ⟨⟨⟨c1, c2, rfl, fun p hp => ⟨hro p hp, (hz7 p (Nat.zero_le _) (by rw [Nat.zero_add]; exact hp)).1⟩⟩, ⟨t1.trans (by rw [c3]; rfl), by rw [c3]; exact Nat.zero_le _, fun k hk => ?_⟩, ⟨t2.trans (by rw [c4]; rfl), by rw [c4]; exact Nat.zero_le _, fun k hk => ?_⟩, ⟨c4.symm, fun k hk => absurd hk (Nat.not_lt_zero _), List.Pairwise.nil, fun j hj => absurd hj (Nat.not_lt_zero _), fun j k hj => ?_⟩, ⟨c6, fun j hj => absurd hj (Nat.not_lt_zero _)⟩, rfl, rfl⟩, ⟨t3.trans (by rw [c5]; rfl), by rw [c5]; exact Nat.zero_le _, by rw [c5]; rfl, fun k hk => ?_⟩, ⟨rfl, fun j w hw => absurd hw (by rw [show encA [] = [] from rfl]; exact fun z => Option.noConfusion rfl (heq_of_eq z)), fun k hk => absurd (show k < 0 from hk) (Nat.not_lt_zero _), fun j w hw => absurd hw (by rw [show encA [] = [] from rfl]; exact fun z => Option.noConfusion rfl (heq_of_eq z))⟩, rfl⟩
    · rw [c3] at hk
      exact absurd hk (Nat.not_lt_zero _)
    · rw [c4] at hk
      exact absurd hk (Nat.not_lt_zero _)
    · rw [c4] at hj
      exact absurd hj (Nat.not_lt_zero _)
    · rw [c5] at hk
      exact absurd hk (Nat.not_lt_zero _)
  have hX := erX (cxB tb L kf vs) (trB (bM tb L) L) 0 0 0 (uTk 0 (R1B tb (bM tb L) L (zeT (ntT (bM tb L) L + 1) ro) (zeT (ntT (bM tb L) L + 1) me))) rfl hz
  have hX : (P2B tb (bM tb L) L (kfT (bM tb L) L (ntT (bM tb L) L + 1) kf) (zeT (ntT (bM tb L) L + 1) ro) (zeT (ntT (bM tb L) L + 1) me)) = _ := hX
  have hS := b_run (cx_ok tb L kf vs) hok [] [] _ hL (by show 0 + skN (trB (bM tb L) L) ≤ skN (trB (bM tb L) L); omega) hz
  rw [ruS_e] at hS
  have e1 : (runX (cxB tb L kf vs) (nI 0, 0, uTk 0 (R1B tb (bM tb L) L (zeT (ntT (bM tb L) L + 1) ro) (zeT (ntT (bM tb L) L + 1) me))) (trB (bM tb L) L)).1 = (P2B tb (bM tb L) L (kfT (bM tb L) L (ntT (bM tb L) L + 1) kf) (zeT (ntT (bM tb L) L + 1) ro) (zeT (ntT (bM tb L) L + 1) me)).1 := by rw [hX]
  have e2 : (runX (cxB tb L kf vs) (nI 0, 0, uTk 0 (R1B tb (bM tb L) L (zeT (ntT (bM tb L) L + 1) ro) (zeT (ntT (bM tb L) L + 1) me))) (trB (bM tb L) L)).2.2 = (P2B tb (bM tb L) L (kfT (bM tb L) L (ntT (bM tb L) L + 1) kf) (zeT (ntT (bM tb L) L + 1) ro) (zeT (ntT (bM tb L) L + 1) me)).2 := by rw [hX]
  rcases hS with ⟨pp, h1, h2⟩ | h1
  · refine .inl ⟨pp, ?_, by rw [show cTc C0 = 0 from c3] at h2; exact h2⟩
    have e3 : (runX (cxB tb L kf vs) (nI 0, 0, uTk 0 (R1B tb (bM tb L) L (zeT (ntT (bM tb L) L + 1) ro) (zeT (ntT (bM tb L) L + 1) me))) (trB (bM tb L) L)).2.1 = 0 := h1.1.2.2.2.2.2.2
    have h1 : LR (cxB tb L kf vs) (0 + skN (trB (bM tb L) L)) ([] ++ (stT (trB (bM tb L) L))) pp ((runC (vsT (bM tb L) L (ntT (bM tb L) L + 1) vs) C0 (trB (bM tb L) L)), R1B tb (bM tb L) L (zeT (ntT (bM tb L) L + 1) ro) (zeT (ntT (bM tb L) L + 1) me), runX (cxB tb L kf vs) (nI 0, 0, uTk 0 (R1B tb (bM tb L) L (zeT (ntT (bM tb L) L + 1) ro) (zeT (ntT (bM tb L) L + 1) me))) (trB (bM tb L) L)) := h1
    rw [Nat.zero_add, List.nil_append] at h1
    have e : runX (cxB tb L kf vs) (nI 0, 0, uTk 0 (R1B tb (bM tb L) L (zeT (ntT (bM tb L) L + 1) ro) (zeT (ntT (bM tb L) L + 1) me))) (trB (bM tb L) L) = ((P2B tb (bM tb L) L (kfT (bM tb L) L (ntT (bM tb L) L + 1) kf) (zeT (ntT (bM tb L) L + 1) ro) (zeT (ntT (bM tb L) L + 1) me)).1, 0, (P2B tb (bM tb L) L (kfT (bM tb L) L (ntT (bM tb L) L + 1) kf) (zeT (ntT (bM tb L) L + 1) ro) (zeT (ntT (bM tb L) L + 1) me)).2) := Prod.ext e1 (Prod.ext e3 e2)
    rw [e] at h1
    exact h1
  · obtain ⟨x1, x2, x3, x4⟩ := h1
    exact .inr ⟨x1, x2, e1.symm.trans x3, (congrArg rTk e2.symm).trans x4⟩
