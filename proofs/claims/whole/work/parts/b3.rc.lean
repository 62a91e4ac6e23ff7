/-! ===== steps and code as the days ask for them ===== -/
def atS (st : List (Nat × Nat × Nat)) (i : Nat) : Nat × Nat × Nat := st.getD i (0, 0, 0)
def stK (st : List (Nat × Nat × Nat)) (i : Nat) : Nat := (atS st i).1
def stA (c : Cx) (R : MR) (st : List (Nat × Nat × Nat)) (i : Nat) : Nat := (oA c R (atS st i)).toNatClampNeg
def stB (R : MR) (st : List (Nat × Nat × Nat)) (i : Nat) : Nat := (oB R (atS st i)).toNatClampNeg
def stP (st : List (Nat × Nat × Nat)) (i : Nat) : Nat := (encA (st.take i)).length
theorem atS_e {st : List (Nat × Nat × Nat)} {i : Nat} (h : i < st.length) : atS st i = st[i] := by
  unfold atS
  rw [List.getD_eq_getElem?_getD, List.getElem?_eq_getElem h]
  rfl
theorem o_nat {c : Cx} {R : MR} {P i : Nat} {x : Nat × Nat × Nat} (h : sOk c R P i x) (h8 : P ≤ 8) : (∃ a, oA c R x = nI a ∧ a < 1000000 ∧ (x.1 = 16 ∨ x.1 = 17 ∨ x.1 = 19 ∨ x.1 = 21 → a < P)) ∧ ∃ b, oB R x = nI b ∧ b < 1000000 ∧ (x.1 = 19 ∨ x.1 = 21 → b < P) := by
  obtain ⟨h1, h2, h3⟩ := h
  constructor
  · unfold oA
    by_cases q : x.1 = 44
    · rw [if_pos q]
      obtain ⟨m, m1, m2⟩ := h1 q
      exact ⟨m, m2, m1, fun z => by omega⟩
    · rw [if_neg q]
      by_cases r : x.1 = 16 ∨ x.1 = 17 ∨ x.1 = 19 ∨ x.1 = 21
      · rw [if_pos r]
        obtain ⟨_, m, m1, m2⟩ := h2 r
        exact ⟨m, m2, by omega, fun _ => m1⟩
      · rw [if_neg r]
        exact ⟨0, rfl, by decide, fun z => absurd z r⟩
  · unfold oB
    by_cases r : x.1 = 19 ∨ x.1 = 21
    · rw [if_pos r]
      obtain ⟨_, m, m1, m2⟩ := h3 r
      exact ⟨m, m2, by omega, fun _ => m1⟩
    · rw [if_neg r]
      exact ⟨0, rfl, by decide, fun z => absurd z r⟩
theorem st_nI {c : Cx} {R : MR} {P i j : Nat} {st : List (Nat × Nat × Nat)} (hj : j < st.length) (h : sOk c R P i st[j]) (h8 : P ≤ 8) : oA c R st[j] = nI (stA c R st j) ∧ oB R st[j] = nI (stB R st j) ∧ (st[j].1 = 16 ∨ st[j].1 = 17 ∨ st[j].1 = 19 ∨ st[j].1 = 21 → stA c R st j < P) ∧ (st[j].1 = 19 ∨ st[j].1 = 21 → stB R st j < P) := by
  obtain ⟨⟨a, a1, a2, a3⟩, b, b1, b2, b3⟩ := o_nat h h8
  unfold stA stB
  rw [atS_e hj, a1, b1, nI_clamp (by omega), nI_clamp (by omega)]
  exact ⟨rfl, rfl, a3, b3⟩
theorem encS_n (x : Nat × Nat × Nat) : (encS x).length = lnR x.1 := by
  unfold encS lnR
  by_cases h : x.1 = 44
  · rw [if_pos h, if_pos (.inl h)]
    rfl
  · rw [if_neg h]
    by_cases h2 : x.1 = 16 ∨ x.1 = 17
    · rw [if_pos h2, if_pos (.inr h2)]
      rfl
    · rw [if_neg h2, if_neg (show ¬ (x.1 = 44 ∨ x.1 = 16 ∨ x.1 = 17) from fun z => z.elim h h2)]
      split <;> rfl
theorem enc_at {st : List (Nat × Nat × Nat)} {i j : Nat} (hi : i < st.length) (hj : j < (encS st[i]).length) : (encA st)[stP st i + j]? = (encS st[i])[j]? := by
  have e : encA st = encA (st.take i) ++ (encS st[i] ++ encA (st.drop (i + 1))) := by
    have : st = st.take i ++ (st[i] :: st.drop (i + 1)) := by
      rw [← List.drop_eq_getElem_cons hi, List.take_append_drop]
    calc encA st = encA (st.take i ++ (st[i] :: st.drop (i + 1))) := by rw [← this]
      _ = _ := by rw [encA_app]; rfl
  rw [e, List.getElem?_append_right (by unfold stP; omega)]
  unfold stP
  rw [Nat.add_sub_cancel_left, List.getElem?_append_left hj]
theorem pos_s {st : List (Nat × Nat × Nat)} {i : Nat} (hi : i < st.length) : stP st (i + 1) = stP st i + lnR st[i].1 := by
  unfold stP
  rw [List.take_succ_eq_append_getElem hi, encA_app, List.length_append, ← encS_n]
  show _ + (encS st[i] ++ []).length = _
  rw [List.append_nil]
theorem code_rc {c : Cx} {R : MR} {P i : Nat} {st : List (Nat × Nat × Nat)} {cf : Nat → Int32} (hcf : ∀ (j : Nat) (w : Nat × Nat), (encA st)[j]? = some w → cf j = wF c R w) (hs : ∀ j (h : j < st.length), sOk c R P i st[j]) (h8 : P ≤ 8) : rcode cf (stK st) (stA c R st) (stB R st) (stP st) st.length := by
  intro j hj
  obtain ⟨n1, n2, _, _⟩ := st_nI hj (hs j hj) h8
  have hK : stK st j = st[j].1 := by unfold stK; rw [atS_e hj]
  have hp := pos_s hj
  rw [hK]
  have hl := encS_n st[j]
  have w : ∀ (m : Nat) (w : Nat × Nat), m < (encS st[j]).length → (encS st[j])[m]? = some w → cf (stP st j + m) = wF c R w := fun m w hm hw => hcf _ _ ((enc_at hj hm).trans hw)
  generalize st[j] = x at *
  obtain ⟨k, a, b⟩ := x
  have e0 : (encS (k, a, b))[0]? = some (0, k) := by
    unfold encS
    split
    · rfl
    · split
      · rfl
      · split <;> rfl
  refine ⟨?_, fun h2 => ?_, fun h3 => ?_, hp⟩
  · have := w 0 (0, k) (by rw [hl]; exact lnR_pos k) e0
    rw [Nat.add_zero] at this
    rw [this]
    rfl
  · have h2 : 2 ≤ lnR k := h2
    rw [← n1]
    unfold lnR at h2
    by_cases q : k = 44
    · subst q
      have := w 1 (1, a) (by rw [hl]; exact (by decide : 1 < lnR 44)) rfl
      rw [this]
      rfl
    · by_cases q2 : k = 16 ∨ k = 17
      · have e1 : (encS (k, a, b))[1]? = some (2, a) := by
          unfold encS
          rw [if_neg q, if_pos q2]
          rfl
        rw [w 1 (2, a) (by rw [hl]; unfold lnR; rw [if_pos (.inr q2)]; decide) e1]
        show _ = oA c R (k, a, b)
        unfold oA
        rw [if_neg q, if_pos (by show k = 16 ∨ k = 17 ∨ k = 19 ∨ k = 21; omega)]
        rfl
      · rw [if_neg (by omega)] at h2
        by_cases q3 : k = 19 ∨ k = 21
        · have e1 : (encS (k, a, b))[1]? = some (2, a) := by
            unfold encS
            rw [if_neg q, if_neg q2, if_pos q3]
            rfl
          rw [w 1 (2, a) (by rw [hl]; unfold lnR; rw [if_neg (by omega), if_pos q3]; decide) e1]
          show _ = oA c R (k, a, b)
          unfold oA
          rw [if_neg q, if_pos (by show k = 16 ∨ k = 17 ∨ k = 19 ∨ k = 21; omega)]
          rfl
        · rw [if_neg q3] at h2
          omega
  · have h3 : 3 ≤ lnR k := h3
    rw [← n2]
    unfold lnR at h3
    by_cases q : k = 44 ∨ k = 16 ∨ k = 17
    · rw [if_pos q] at h3
      omega
    · rw [if_neg q] at h3
      by_cases q3 : k = 19 ∨ k = 21
      · have e1 : (encS (k, a, b))[2]? = some (2, b) := by
          unfold encS
          rw [if_neg (by show ¬ k = 44; omega), if_neg (by show ¬ (k = 16 ∨ k = 17); omega), if_pos q3]
          rfl
        rw [w 2 (2, b) (by rw [hl]; unfold lnR; rw [if_neg q, if_pos q3]; decide) e1]
        show _ = oB R (k, a, b)
        unfold oB
        rw [if_pos (by exact q3)]
        rfl
      · rw [if_neg q3] at h3
        omega
theorem ty_M {c : Cx} {R : MR} {P i : Nat} {st : List (Nat × Nat × Nat)} (hs : ∀ j (h : j < st.length), sOk c R P i st[j]) (h8 : P ≤ 8) : ∀ (m f : Nat) (ts ts' : List Bool), f + m ≤ st.length → tyS ((st.drop f).take m) ts ts' → tyM P (stK st) (stA c R st) (stB R st) m f ts ts'
  | 0, _, _, _, _, h => h
  | m + 1, f, ts, ts', hf, h => by
    have hf' : f < st.length := by omega
    rw [List.drop_eq_getElem_cons hf', List.take_succ_cons] at h
    obtain ⟨t1, h1, h2⟩ := h
    refine ⟨t1, ?_, ty_M hs h8 m (f + 1) _ _ (by omega) h2⟩
    obtain ⟨_, _, n3, n4⟩ := st_nI hf' (hs f hf') h8
    have hK : stK st f = st[f].1 := by unfold stK; rw [atS_e hf']
    rw [hK]
    unfold tyO
    rcases h1 with ⟨h, e⟩ | ⟨h, e⟩ | h | h | h | h | h | h
    · by_cases q : st[f].1 = 16 ∨ st[f].1 = 17
      · exact .inl ⟨.inr ⟨q, n3 (by omega)⟩, e⟩
      · exact .inl ⟨.inl (by omega), e⟩
    · exact .inr (.inl ⟨⟨h, n3 (by omega), n4 h⟩, e⟩)
    · exact .inr (.inr (.inl h))
    · exact .inr (.inr (.inr (.inl h)))
    · exact .inr (.inr (.inr (.inr (.inl h))))
    · exact .inr (.inr (.inr (.inr (.inr (.inl h)))))
    · exact .inr (.inr (.inr (.inr (.inr (.inr (.inl h))))))
    · exact .inr (.inr (.inr (.inr (.inr (.inr (.inr h))))))
