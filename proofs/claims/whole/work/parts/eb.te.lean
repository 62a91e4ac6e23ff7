/-! ===== both are taught ===== -/
def fq12 (τ τ' : mxS) : Prop := τ'.2 = (τ.2.1 + 12, τ.2.2 + 1349) ∧ (∀ a, a < 1000 + τ.2.1 → a < 1075 ∨ a = 1101 → τ'.1 a = τ.1 a)
theorem fq_R {τ τ' : mxS} (h : fq12 τ τ') : frR τ τ' := by
  obtain ⟨h1, h2⟩ := h
  refine ⟨fun a x y => h2 a y x, ?_, ?_, ?_⟩
  · rw [h1]
    exact Nat.le_add_right _ _
  · rw [h1]
    show τ.2.1 + 12 ≤ _
    omega
  · rw [h1]
    show τ.2.2 + 1349 ≤ _
    omega
theorem run_et2 {NT : Nat} (v : Nat → Int64) : ∀ (t : List PA) (R : RS), cEt R ≤ NT → cAt R + skN t ≤ NT → cEt (runC v R t) ≤ NT
  | [], R, h, _ => h
  | a :: t, R, h, hs => by
    rw [skN] at hs
    refine run_et2 v t (stepC v R a) ?_ ?_
    · rcases et_step v a R with z | z <;> omega
    · rw [at_step]; omega
/-- the same steps under other names -/
theorem cw_pln {τ : mxS} {L : Nat} {bs : Nat → Int32} {ep : Int32} {g pb : Nat} {n P O T : Nat} {K A B : Nat → Nat} {od : ODT} {hs : Nat → Int32} {pl : Nat → Nat} {ls : Nat → Int32} {dy co : Int32} {K' A' B' : Nat → Nat} (H : cwJ τ L bs ep g pb n P O T K A B od hs pl ls dy co) (e : ∀ i, i < T → K i = K' i ∧ nI (A i) = nI (A' i) ∧ nI (B i) = nI (B' i)) : cwJ τ L bs ep g pb n P O T K' A' B' od hs pl ls dy co := by
  obtain ⟨c1, c2, c3, c4, c5, c6, ⟨x1, x2, x3, x4, x5, x6, x7, x8, y1, y2, y3, y4⟩, c8⟩ := H
  refine ⟨c1, c2, c3, c4, c5, c6, ⟨x1, x2, x3, x4, x5, x6, x7, x8, y1, y2, fun i hi => ?_, y4⟩, c8⟩
  obtain ⟨z1, z2, z3⟩ := y3 i hi
  obtain ⟨e1, e2, e3⟩ := e i hi
  exact ⟨z1.trans (congrArg some e1), z2.trans e2, z3.trans e3⟩
theorem te_err {τ : mxS} {L : Nat} {bs tb : Nat → Int32} {ep : Int32} {g pb g2 : Nat} {n P O T : Nat} {K A B : Nat → Nat} {od : ODT} {hs : Nat → Int32} {pl : Nat → Nat} {ls : Nat → Int32} {dy co : Int32} {h' ls' : Nat → Int32} (H : WJ τ L bs tb ep g pb g2 n P O T K A B od hs pl ls dy co h' ls') {C : RS} {ep1 : Int32} {τ1 : mxS} (hR : cRd τ L bs pb C ep1 τ1) (hr : ∀ d, 80 ≤ d → ∀ {Q : Option Value ⊕ Nat → mxS → Prop}, WP d 769 0 [some (.ref 1003)] [] τ Q = Q (.inl (some (.int (nI (cEr C))))) τ1) (he : ¬ cEr C = 0) (he5 : cEr C ≤ 5) (het : cEt C ≤ 400) (hx : ∀ τ0, rwJ τ0 L tb ep g2 n P O T K A B od h' pl ls' dy co → ∃ τ2, rwJ τ2 0 tb ep1 g2 n P O T K A B od h' pl ls' dy co ∧ fq12 τ0 τ2 ∧ ∀ {Q : Option Value ⊕ Nat → mxS → Prop}, WP 199 1584 0 [some (.ref 1075), none] [] τ0 Q = Q (.inl (some (.int (nI (cEr C))))) τ2) : PAr Value.int (fun _ => True) 1155 [some (.ref 1000), none] 1584 [some (.ref 1075), none] τ := by
  obtain ⟨HC, HR, hok, ea, el, hb, o, ho⟩ := id H
  have hN := w_N H
  obtain ⟨⟨cg, _⟩, _⟩ := id HC
  obtain ⟨HC0, hq⟩ := t_err (d := 199) HC hR hr he he5 het (by decide)
  have hf : frC τ (mxWr τ1 1001 (.inr (5, [.ref 1002, .int (nI 0)]))) := frC_of (fun a x => (wr_o _ _ (by omega)).trans (hR.2.1 a (by omega) (by omega) (by omega))) hR.1
  generalize (mxWr τ1 1001 (.inr (5, [.ref 1002, .int (nI 0)]))) = τ3 at *
  obtain ⟨HC1, HR1⟩ := w_mid H hf HC0 (frO_id τ3)
  obtain ⟨o1, ho1⟩ := w_out H hf
  obtain ⟨τ2, HR2, h12, hq2⟩ := hx τ3 HR1
  obtain ⟨W2, c2, _⟩ := w_end hf (frO_id τ3) (fq_R h12) hN ho1 HC1 HR2 hok ea el (fun k hk => absurd hk (Nat.not_lt_zero _))
  exact ⟨nI (cEr C), τ3, τ2, trivial, hq, hq2, ⟨w_X H, hN, rw_M HR1, Nat.le_trans hN hf.2.1⟩, W2, c2⟩
theorem cl_P {T : Nat} {K A B pos : Nat → Nat} {C : RS} {R : MR} (h : bothP T K A B pos C R) : clP C T K A B (odC C) := by
  obtain ⟨⟨b1, b2, b3, b4, b5, b6, b7⟩, ⟨b8, b9, b10⟩, b11, b12, b13, b14, b15⟩ := h
  exact ⟨⟨b1, b2⟩, b7, b13, fun k hk => ⟨(b15 k hk).1, (b15 k hk).2.2.1⟩, fun q hq => (b12 q hq).2.2.1⟩
theorem cl_ok {T : Nat} {K A B pos : Nat → Nat} {C : RS} {R : MR} {hs' : Nat → Int32} (h : bothP T K A B pos C R) (e : agN (cTc C) (cHs C) hs') : plOK (cTc C) (cPc C) (cOc C) T K A B (odC C) hs' (plN C) := by
  obtain ⟨⟨b1, b2, b3, b4, b5, b6, b7⟩, ⟨b8, b9, b10⟩, b11, b12, b13, b14, b15⟩ := h
  refine ⟨⟨b1, b2⟩, b3, b4, b5, fun z hz => (b15 z hz).2.1, fun t ht => ?_, fun q hq => (b12 q hq).2.2.2⟩
  obtain ⟨x, hx, hx2⟩ := (b11 t ht).2
  exact ⟨x, hx, (e t ht).symm.trans hx2⟩
theorem pa_teach {τ : mxS} {L : Nat} {bs tb : Nat → Int32} {ep : Int32} {g pb g2 : Nat} {n P O T : Nat} {K A B : Nat → Nat} {od : ODT} {hs : Nat → Int32} {pl : Nat → Nat} {ls : Nat → Int32} {dy co : Int32} {h' ls' : Nat → Int32} (H : WJ τ L bs tb ep g pb g2 n P O T K A B od hs pl ls dy co h' ls') : PAr Value.int (fun _ => True) 1155 [some (.ref 1000), none] 1584 [some (.ref 1075), none] τ := by
  obtain ⟨HC, HR, hok, ea, el, hb, o, ho⟩ := id H
  have hN := w_N H
  have hbm : bM tb L = bA bs L := bm_eq hb
  obtain ⟨t0, hs0, ps0, ls0, od0, kf0, fa0, sx0, ns, vs, sa, τ1, ht0, hR, hr⟩ := t_read HC
  rw [← hbm] at hR hr
  obtain ⟨n1, n2, n3⟩ := ntT_ok (bM tb L) L
  have hle := trB_le (bM tb L) L
  have het : cEt (cEnd (kdT (bM tb L) L) (vsT (bM tb L) L (ntT (bM tb L) L + 1) vs) (cBeg t0 hs0 ps0 ls0 od0 kf0 fa0 sx0 ns)) ≤ 400 := end_et ht0
  rcases hokB : okB (bM tb L) L with _ | _
  · have eC : (cEnd (kdT (bM tb L) L) (vsT (bM tb L) L (ntT (bM tb L) L + 1) vs) (cBeg t0 hs0 ps0 ls0 od0 kf0 fa0 sx0 ns)) = cFail (runC (vsT (bM tb L) L (ntT (bM tb L) L + 1) vs) (cBeg t0 hs0 ps0 ls0 od0 kf0 fa0 sx0 ns) (trB (bM tb L) L)) := if_neg (by rw [show (pBook (kdT (bM tb L) L)).1 = false from hokB]; exact Bool.false_ne_true)
    have e1 : cEr (cEnd (kdT (bM tb L) L) (vsT (bM tb L) L (ntT (bM tb L) L + 1) vs) (cBeg t0 hs0 ps0 ls0 od0 kf0 fa0 sx0 ns)) = 1 := by rw [eC]; rfl
    have e2 : cEt (cEnd (kdT (bM tb L) L) (vsT (bM tb L) L (ntT (bM tb L) L + 1) vs) (cBeg t0 hs0 ps0 ls0 od0 kf0 fa0 sx0 ns)) = skN (trB (bM tb L) L) := by
      rw [eC]
      show cAt (runC (vsT (bM tb L) L (ntT (bM tb L) L + 1) vs) (cBeg t0 hs0 ps0 ls0 od0 kf0 fa0 sx0 ns) (trB (bM tb L) L)) = _
      rw [run_at]
      exact Nat.zero_add _
    refine te_err H hR hr (by rw [e1]; decide) (by rw [e1]; decide) het (fun τ0 HR0 => ?_)
    obtain ⟨kf, ff, ro, me, q1, _, _⟩ := rt_all (d := 199) HR0 (by decide) (bm_b hb)
    obtain ⟨τ2, HR2, h12, hq⟩ := q1 hokB
    have e3 : cEp (saT (bM tb L) L (ntT (bM tb L) L + 1) sa) (cEnd (kdT (bM tb L) L) (vsT (bM tb L) L (ntT (bM tb L) L + 1) vs) (cBeg t0 hs0 ps0 ls0 od0 kf0 fa0 sx0 ns)) = saT (bM tb L) L (ntT (bM tb L) L + 1) ff (skN (trB (bM tb L) L)) := by
      unfold cEp
      rw [if_neg (by rw [e1]; decide), e2]
      have hz : ∀ z, saT (bM tb L) L (ntT (bM tb L) L + 1) z (skN (trB (bM tb L) L)) = nI (frT (bM tb L) L (skN (trB (bM tb L) L))) := fun z => upto_lt _ _ (by omega)
      rw [hz, hz]
    rw [e3, e1]
    exact ⟨τ2, HR2, h12, fun {Q} => hq⟩
  · have eC : (cEnd (kdT (bM tb L) L) (vsT (bM tb L) L (ntT (bM tb L) L + 1) vs) (cBeg t0 hs0 ps0 ls0 od0 kf0 fa0 sx0 ns)) = (runC (vsT (bM tb L) L (ntT (bM tb L) L + 1) vs) (cBeg t0 hs0 ps0 ls0 od0 kf0 fa0 sx0 ns) (trB (bM tb L) L)) := if_pos hokB
    rw [eC] at hR hr het
    by_cases he : cEr (runC (vsT (bM tb L) L (ntT (bM tb L) L + 1) vs) (cBeg t0 hs0 ps0 ls0 od0 kf0 fa0 sx0 ns) (trB (bM tb L) L)) = 0
    · rcases both (kf := fz) (ro := fz) (me := fz) (vs := vs) (C0 := (cBeg t0 hs0 ps0 ls0 od0 kf0 fa0 sx0 ns)) hokB ⟨rfl, rfl, rfl, rfl, rfl, rfl⟩ with ⟨pp, h1, h2⟩ | ⟨h1, _⟩
      · have P0 := plan_ok h1 h2
        obtain ⟨hs', lz, τ', HC', eh, eL, n', f', hq⟩ := t_ok (d := 199) HC hR hr he het (cl_P P0) P0.1.2.2.1 (by decide)
        have hf : frC τ τ' := frC_of f' n'
        obtain ⟨HC1, HR1⟩ := w_mid H hf HC' (frO_id τ')
        obtain ⟨o1, ho1⟩ := w_out H hf
        obtain ⟨kf, ff, ro, me, _, _, q3⟩ := rt_all (d := 199) HR1 (by decide) (bm_b hb)
        rcases both (kf := kf) (ro := ro) (me := me) (vs := vs) (C0 := (cBeg t0 hs0 ps0 ls0 od0 kf0 fa0 sx0 ns)) hokB ⟨rfl, rfl, rfl, rfl, rfl, rfl⟩ with ⟨pp', g1, g2⟩ | ⟨g1, _⟩
        · have P1 := plan_ok g1 g2
          have hz := g1.1.2.2.2.2.2.1
          obtain ⟨h2, τ2, e2, HR2, h12, hq2⟩ := q3 hokB hz _ _ _ _ _ _ P1
          have HC2 := cw_pln HC1 (fun i hi => ⟨Option.some.inj ((P0.2.2.2.2.1 i hi).1.symm.trans (P1.2.2.2.2.1 i hi).1), (P0.2.2.2.2.1 i hi).2.1.symm.trans (P1.2.2.2.2.1 i hi).2.1, (P0.2.2.2.2.1 i hi).2.2.symm.trans (P1.2.2.2.2.1 i hi).2.2⟩)
          have e3 : cEp (saT (bM tb L) L (ntT (bM tb L) L + 1) sa) (runC (vsT (bM tb L) L (ntT (bM tb L) L + 1) vs) (cBeg t0 hs0 ps0 ls0 od0 kf0 fa0 sx0 ns) (trB (bM tb L) L)) = -1 := if_pos he
          rw [e3] at HC2
          obtain ⟨W2, c2, _⟩ := w_end hf (frO_id τ') (fq_R h12) hN ho1 HC2 HR2 (cl_ok P1 eh) (fun t ht => (eh t ht).symm.trans (e2 t ht)) (fun q hq => (eL q hq).symm.trans (P1.2.2.2.1 q hq).2.1.symm) (fun k hk => absurd hk (Nat.not_lt_zero _))
          exact ⟨nI 0, τ', τ2, trivial, hq, hq2, ⟨w_X H, hN, rw_M HR1, Nat.le_trans hN hf.2.1⟩, W2, c2⟩
        · exact absurd he g1
      · exact absurd he h1
    · obtain ⟨he5, _⟩ : cEr (runC (vsT (bM tb L) L (ntT (bM tb L) L + 1) vs) (cBeg t0 hs0 ps0 ls0 od0 kf0 fa0 sx0 ns) (trB (bM tb L) L)) ≤ 5 ∧ True := by
        rcases both (kf := fz) (ro := fz) (me := fz) (vs := vs) (C0 := (cBeg t0 hs0 ps0 ls0 od0 kf0 fa0 sx0 ns)) hokB ⟨rfl, rfl, rfl, rfl, rfl, rfl⟩ with ⟨pp, h1, h2⟩ | ⟨_, h2, _⟩
        · exact absurd h1.1.1.1 he
        · exact ⟨h2, trivial⟩
      refine te_err H hR hr he he5 het (fun τ0 HR0 => ?_)
      obtain ⟨kf, ff, ro, me, _, q2, _⟩ := rt_all (d := 199) HR0 (by decide) (bm_b hb)
      rcases both (kf := kf) (ro := ro) (me := me) (vs := vs) (C0 := (cBeg t0 hs0 ps0 ls0 od0 kf0 fa0 sx0 ns)) hokB ⟨rfl, rfl, rfl, rfl, rfl, rfl⟩ with ⟨pp, h1, h2⟩ | ⟨_, _, h3, h4⟩
      · exact absurd h1.1.1.1 he
      · have hne : ¬ nI (cEr (runC (vsT (bM tb L) L (ntT (bM tb L) L + 1) vs) (cBeg t0 hs0 ps0 ls0 od0 kf0 fa0 sx0 ns) (trB (bM tb L) L))) = nI 0 := nI_ne0 (by omega) (by omega)
        rcases both (kf := kf) (ro := ro) (me := me) (vs := vs) (C0 := cBeg 0 hs0 ps0 ls0 od0 kf0 fa0 sx0 ns) hokB ⟨rfl, rfl, rfl, rfl, rfl, rfl⟩ with ⟨pp, h1, h2⟩ | ⟨_, _, _, h5⟩
        · exact absurd (h3.symm.trans h1.1.2.2.2.2.2.1) hne
        · have h6 : cEt (runC (vsT (bM tb L) L (ntT (bM tb L) L + 1) vs) (cBeg t0 hs0 ps0 ls0 od0 kf0 fa0 sx0 ns) (trB (bM tb L) L)) ≤ ntT (bM tb L) L := by
            rw [← h4, h5]
            exact run_et2 _ _ _ (Nat.zero_le _) (by show 0 + skN _ ≤ _; omega)
          obtain ⟨τ2, HR2, h12, hq⟩ := q2 hokB (by rw [h3]; exact hne)
          have e3 : cEp (saT (bM tb L) L (ntT (bM tb L) L + 1) sa) (runC (vsT (bM tb L) L (ntT (bM tb L) L + 1) vs) (cBeg t0 hs0 ps0 ls0 od0 kf0 fa0 sx0 ns) (trB (bM tb L) L)) = saT (bM tb L) L (ntT (bM tb L) L + 1) ff (cEt (runC (vsT (bM tb L) L (ntT (bM tb L) L + 1) vs) (cBeg t0 hs0 ps0 ls0 od0 kf0 fa0 sx0 ns) (trB (bM tb L) L))) := by
            unfold cEp
            rw [if_neg he]
            have hz : ∀ z, saT (bM tb L) L (ntT (bM tb L) L + 1) z (cEt (runC (vsT (bM tb L) L (ntT (bM tb L) L + 1) vs) (cBeg t0 hs0 ps0 ls0 od0 kf0 fa0 sx0 ns) (trB (bM tb L) L))) = nI (frT (bM tb L) L (cEt (runC (vsT (bM tb L) L (ntT (bM tb L) L + 1) vs) (cBeg t0 hs0 ps0 ls0 od0 kf0 fa0 sx0 ns) (trB (bM tb L) L)))) := fun z => upto_lt _ _ (by omega)
            rw [hz, hz]
          rw [e3]
          rw [h4] at HR2
          rw [h3] at hq
          exact ⟨τ2, HR2, h12, fun {Q} => hq⟩
